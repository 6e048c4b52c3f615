section
set_option maxHeartbeats 4000000 in
set_option maxRecDepth 100000 in
theorem k_M_begins (l : Launch) (dC : Nat → ClassId) (dI : Nat → Nat → Nat) (cI cZ cF : ClassId) (sz : Nat) (k0 : Nat) (a : Nat → Nat) (I0 : Nat → Int32) (J0 : Nat → Int64) (dn : Nat) (bs : Nat) (ft : Nat) (w0 : Nat) (cp : Nat) (cE : Nat) (kd : Nat → Int32) (st : Nat → Int32) (gb : Nat → Int32) (it : Nat → Int32) (pa : Nat → Int32) (pb : Nat → Int32) (rk : Nat → Int32) (wd : Nat → Int32) (tw : Nat → Int32) (tn : Nat → Int32) (mn : Nat → Int32) (cx : Nat → Int32) (cy : Nat → Int32) (sa : Nat → Int32) (sh : Nat → Int32) (hft : I0 0 = nI ft) (h200 : ft ≤ 200) (hdn : I0 19 = nI dn) (hbs : I0 21 = nI bs) (hbd : bs ≤ dn) (hd512 : dn ≤ 512) (hi5 : (dn - bs) < 515) (hsa : sa (dn - bs) = nI w0) (hmn : ∀ f, f < ft → (tn f).toInt = 0 → ¬ (st f).toInt = 0 → mn f = nI (nN (mn f)) ∧ nN (mn f) ≤ 40) (hc1 : 1 ≤ cp) (hpw : pw cp cE) (hw0 : w0 ≤ 4096 * cp) (hfit : psN (nnF st tn mn) w0 ft ≤ 4096 * cE) (hmin : cE = cp ∨ 2048 * cE < psN (nnF st tn mn) w0 ft) (hcE : cE ≤ 512) : Met l yX11_begins (.code yX11_begins cX11_begins 1 none :: ws0) ({ frames := 2, cells := cE - cp, slots := 8192 * (cE - cp), locals := 47 } : Room) (va_Pc [.ref k0] (zPre (dC, dI) classes (zTy cI cZ cF) [(om k0 a I0 J0), (oa (a 1) cI 201 kd), (oa (a 5) cI 201 st), (oa (a 7) cI 201 gb), (oa (a 10) cI 201 it), (oa (a 8) cI 201 pa), (oa (a 9) cI 201 pb), (oa (a 2) cI 201 rk), (oa (a 3) cI 201 wd), (oa (a 4) cI 201 tw), (oa (a 6) cZ 201 tn), (oa (a 11) cI 201 mn), (oa (a 12) cI 8040 cx), (oa (a 13) cI 8040 cy), (oa (a 27) cI 516 sa), (oa (a 28) cI (4096 * cp) sh)] sz zXN)) (zQ none (fun t => ∃ (b1 : Nat), ∃ (sh1 : Nat → Int32), (sh1 w0 = nI ft) ∧ (∀ j, j < w0 → sh1 j = sh j) ∧ (∀ g, g < ft → ∀ j, j < 10 + 2 * nnF st tn mn g → sh1 (psN (nnF st tn mn) w0 g + j) = (shD kd st gb it pa pb rk wd tw (nnF st tn mn) cx cy) g j) ∧ (∀ j, psN (nnF st tn mn) w0 ft ≤ j → j < 4096 * cp → sh1 j = sh j) ∧ va_P (dC, dI) classes [(om k0 (va_up a 28 b1) (upd I0 41 (nI (psN (nnF st tn mn) w0 ft))) J0), (oa (a 1) cI 201 kd), (oa (a 5) cI 201 st), (oa (a 7) cI 201 gb), (oa (a 10) cI 201 it), (oa (a 8) cI 201 pa), (oa (a 9) cI 201 pb), (oa (a 2) cI 201 rk), (oa (a 3) cI 201 wd), (oa (a 4) cI 201 tw), (oa (a 6) cZ 201 tn), (oa (a 11) cI 201 mn), (oa (a 12) cI 8040 cx), (oa (a 13) cI 8040 cy), (oa (a 27) cI 516 (upd sa ((dn - bs) + 1) (nI (psN (nnF st tn mn) w0 ft)))), (oa b1 cI (4096 * cE) sh1)] t.heap ∧ va_D (va_A [(om k0 a I0 J0), (oa (a 1) cI 201 kd), (oa (a 5) cI 201 st), (oa (a 7) cI 201 gb), (oa (a 10) cI 201 it), (oa (a 8) cI 201 pa), (oa (a 9) cI 201 pb), (oa (a 2) cI 201 rk), (oa (a 3) cI 201 wd), (oa (a 4) cI 201 tw), (oa (a 6) cZ 201 tn), (oa (a 11) cI 201 mn), (oa (a 12) cI 8040 cx), (oa (a 13) cI 8040 cy), (oa (a 27) cI 516 sa), (oa (a 28) cI (4096 * cp) sh)] sz) [(om k0 (va_up a 28 b1) (upd I0 41 (nI (psN (nnF st tn mn) w0 ft))) J0), (oa (a 1) cI 201 kd), (oa (a 5) cI 201 st), (oa (a 7) cI 201 gb), (oa (a 10) cI 201 it), (oa (a 8) cI 201 pa), (oa (a 9) cI 201 pb), (oa (a 2) cI 201 rk), (oa (a 3) cI 201 wd), (oa (a 4) cI 201 tw), (oa (a 6) cZ 201 tn), (oa (a 11) cI 201 mn), (oa (a 12) cI 8040 cx), (oa (a 13) cI 8040 cy), (oa (a 27) cI 516 (upd sa ((dn - bs) + 1) (nI (psN (nnF st tn mn) w0 ft)))), (oa b1 cI (4096 * cE) sh1)]) (va_A [(om k0 a I0 J0), (oa (a 1) cI 201 kd), (oa (a 5) cI 201 st), (oa (a 7) cI 201 gb), (oa (a 10) cI 201 it), (oa (a 8) cI 201 pa), (oa (a 9) cI 201 pb), (oa (a 2) cI 201 rk), (oa (a 3) cI 201 wd), (oa (a 4) cI 201 tw), (oa (a 6) cZ 201 tn), (oa (a 11) cI 201 mn), (oa (a 12) cI 8040 cx), (oa (a 13) cI 8040 cy), (oa (a 27) cI 516 sa), (oa (a 28) cI (4096 * cp) sh)] sz)) (cE - cp) (8192 * (cE - cp)) (va_A [(om k0 a I0 J0), (oa (a 1) cI 201 kd), (oa (a 5) cI 201 st), (oa (a 7) cI 201 gb), (oa (a 10) cI 201 it), (oa (a 8) cI 201 pa), (oa (a 9) cI 201 pb), (oa (a 2) cI 201 rk), (oa (a 3) cI 201 wd), (oa (a 4) cI 201 tw), (oa (a 6) cZ 201 tn), (oa (a 11) cI 201 mn), (oa (a 12) cI 8040 cx), (oa (a 13) cI 8040 cy), (oa (a 27) cI 516 sa), (oa (a 28) cI (4096 * cp) sh)] sz) := by
  refine Met.ofW (cc := cX11_begins) (maxL := 1) (ret := none) rfl rfl ?_
  intro p e s m args below meth c s₁ B hml hv
  obtain ⟨rfl, hsz, hP, hK, hD0, hXN⟩ := hv
  have hx := B.exec
  have hb := B.bytes
  have hr := B.returns
  have hts0 := atoms_spec (ws := .code yX11_begins cX11_begins 1 none :: ws0) B.pre
  have hts : ∀ w9 ∈ ws0, w9.before ([.ref k0] : List Value).toArray s = true := fun w9 h => hts0 w9 (List.mem_cons_of_mem _ h)
  have hown : s.vm.findClass "ScaleShopModel" = some m.cls := findClass_of_methodNamed B.named
  have hlocks := B.notSynchronized
  subst hsz
  have hD := hD0.self (sz := s.heap.size)
  clear hD0
  generalize hAe : va_A [(om k0 a I0 J0), (oa (a 1) cI 201 kd), (oa (a 5) cI 201 st), (oa (a 7) cI 201 gb), (oa (a 10) cI 201 it), (oa (a 8) cI 201 pa), (oa (a 9) cI 201 pb), (oa (a 2) cI 201 rk), (oa (a 3) cI 201 wd), (oa (a 4) cI 201 tw), (oa (a 6) cZ 201 tn), (oa (a 11) cI 201 mn), (oa (a 12) cI 8040 cx), (oa (a 13) cI 8040 cy), (oa (a 27) cI 516 sa), (oa (a 28) cI (4096 * cp) sh)] s.heap.size = A at hD ⊢
  have hA : ∀ q : Nat, s.heap.size ≤ q → A q := fun q h => by rw [← hAe]; exact Or.inr h
  clear hAe
  have hS : va_S A s.heap s.heap [] := va_S.rf
  have hP : va_P (dC, dI) classes [(om k0 a I0 J0), (oa (a 1) cI 201 kd), (oa (a 5) cI 201 st), (oa (a 7) cI 201 gb), (oa (a 10) cI 201 it), (oa (a 8) cI 201 pa), (oa (a 9) cI 201 pb), (oa (a 2) cI 201 rk), (oa (a 3) cI 201 wd), (oa (a 4) cI 201 tw), (oa (a 6) cZ 201 tn), (oa (a 11) cI 201 mn), (oa (a 12) cI 8040 cx), (oa (a 13) cI 8040 cy), (oa (a 27) cI 516 sa), (oa (a 28) cI (4096 * cp) sh)] s.heap := hP
  obtain ⟨Q9, hQ9⟩ : ∃ Q9 : State → Prop, Q9 = MQ below (zQ none (fun t => ∃ (b1 : Nat), ∃ (sh1 : Nat → Int32), (sh1 w0 = nI ft) ∧ (∀ j, j < w0 → sh1 j = sh j) ∧ (∀ g, g < ft → ∀ j, j < 10 + 2 * nnF st tn mn g → sh1 (psN (nnF st tn mn) w0 g + j) = (shD kd st gb it pa pb rk wd tw (nnF st tn mn) cx cy) g j) ∧ (∀ j, psN (nnF st tn mn) w0 ft ≤ j → j < 4096 * cp → sh1 j = sh j) ∧ va_P (dC, dI) classes [(om k0 (va_up a 28 b1) (upd I0 41 (nI (psN (nnF st tn mn) w0 ft))) J0), (oa (a 1) cI 201 kd), (oa (a 5) cI 201 st), (oa (a 7) cI 201 gb), (oa (a 10) cI 201 it), (oa (a 8) cI 201 pa), (oa (a 9) cI 201 pb), (oa (a 2) cI 201 rk), (oa (a 3) cI 201 wd), (oa (a 4) cI 201 tw), (oa (a 6) cZ 201 tn), (oa (a 11) cI 201 mn), (oa (a 12) cI 8040 cx), (oa (a 13) cI 8040 cy), (oa (a 27) cI 516 (upd sa ((dn - bs) + 1) (nI (psN (nnF st tn mn) w0 ft)))), (oa b1 cI (4096 * cE) sh1)] t.heap ∧ va_D A [(om k0 (va_up a 28 b1) (upd I0 41 (nI (psN (nnF st tn mn) w0 ft))) J0), (oa (a 1) cI 201 kd), (oa (a 5) cI 201 st), (oa (a 7) cI 201 gb), (oa (a 10) cI 201 it), (oa (a 8) cI 201 pa), (oa (a 9) cI 201 pb), (oa (a 2) cI 201 rk), (oa (a 3) cI 201 wd), (oa (a 4) cI 201 tw), (oa (a 6) cZ 201 tn), (oa (a 11) cI 201 mn), (oa (a 12) cI 8040 cx), (oa (a 13) cI 8040 cy), (oa (a 27) cI 516 (upd sa ((dn - bs) + 1) (nI (psN (nnF st tn mn) w0 ft)))), (oa b1 cI (4096 * cE) sh1)]) A) ([.ref k0] : List Value).toArray s (cE - cp) (8192 * (cE - cp)) A := ⟨_, rfl⟩
  rw [← hQ9]
  have hl := lv_entry ([.ref k0]) (n := 1) (Nat.le_of_ble_eq_true rfl)
  rw [lg_entry_eq]
  generalize (lg_sl ([.ref k0]) ++ List.replicate (1 - (lg_sl ([.ref k0])).length) Slot.unset).toArray = ls at hl ⊢
  have hl : lv_has ls 1 [(0, .ref k0)] := hl
  refine lv_aload_n hx hb dX11_begins_0 rfl (lv_at hl 0 rfl) ?_
  refine lv_aload_n hx hb dX11_begins_1 rfl (lv_at hl 0 rfl) ?_
  refine va_get (D := (dC, dI)) (ci := 9) (v := .int (I0 19)) (C := RX11) (T := TX11) (N := 55) hx hb hts inX11 hown hK hP 0 rfl rfl 19 (Nat.le_of_ble_eq_true rfl) (hts _ mw_1178) (fun _ h9 => h9) rfl dX11_begins_2 ?_
  refine zz_i (v := nI dn) (hdn) ?_
  refine lv_aload_n hx hb dX11_begins_5 rfl (lv_at hl 0 rfl) ?_
  refine va_get (D := (dC, dI)) (ci := 9) (v := .int (I0 21)) (C := RX11) (T := TX11) (N := 55) hx hb hts inX11 hown hK hP 0 rfl rfl 21 (Nat.le_of_ble_eq_true rfl) (hts _ mw_1180) (fun _ h9 => h9) rfl dX11_begins_6 ?_
  refine zz_i (v := nI bs) (hbs) ?_
  refine lv_isub hx hb dX11_begins_9 ?_
  refine zz_i (v := nI (dn - bs)) (pk_sub (a := dn) (b := bs) (by omega)) ?_
  obtain ⟨hPc, hDc, hFc⟩ := zc_sub (wc := [(om k0 a I0 J0), (oa (a 1) cI 201 kd), (oa (a 5) cI 201 st), (oa (a 7) cI 201 gb), (oa (a 10) cI 201 it), (oa (a 8) cI 201 pa), (oa (a 9) cI 201 pb), (oa (a 2) cI 201 rk), (oa (a 3) cI 201 wd), (oa (a 4) cI 201 tw), (oa (a 6) cZ 201 tn), (oa (a 11) cI 201 mn), (oa (a 12) cI 8040 cx), (oa (a 13) cI 8040 cy), (oa (a 27) cI 516 sa), (oa (a 28) cI (4096 * cp) sh)]) hP hD hS hA [0, 1, 2, 3, 4, 5, 6, 7, 8, 9, 10, 11, 12, 13, 14, 15] rfl rfl
  refine zcall (st1 := []) (va_runV (As := [.int (nI (dn - bs))]) (rest := []) ⟨hx, hb, hml, hown, hts⟩ (k_M_keep l dC dI cI cZ cF s.heap.size k0 a I0 J0 (dn - bs) ft w0 cp cE kd st gb it pa pb rk wd tw tn mn cx cy sa sh (by first | with_reducible assumption | assumption) (by first | with_reducible assumption | omega) (by first | with_reducible assumption | omega) (by first | with_reducible assumption | assumption) (by first | with_reducible assumption | assumption) (by first | with_reducible assumption | omega) (by first | with_reducible assumption | assumption) (by first | with_reducible assumption | omega) (by first | with_reducible assumption | assumption) (by first | with_reducible assumption | assumption) (by first | with_reducible assumption | omega)) (csV_195 hts rfl rfl ⟨Nat.le_of_ble_eq_true rfl, Nat.le_of_ble_eq_true rfl⟩) (zPV2 (q0 := 0) (ci := 9) hPc hDc hK hXN rfl rfl) rfl rfl hl.1 rfl (lv_room (Nat.le_of_ble_eq_true rfl)) dX11_begins_10 ⟨show (0 + (cE - cp)) ≤ cE - cp by omega, show (0 + (8192 * (cE - cp))) ≤ 8192 * (cE - cp) by omega⟩) hS hFc hFc rfl (fun t H locs ht hB hk1 hS => ?_)
  obtain ⟨b1, sh1, hkf, hkl, hkb, hko, hP1, hD1⟩ := hB
  rw [ht] at hP1
  obtain ⟨hP, hD⟩ := zk (W2 := [(om k0 (va_up a 28 b1) (upd I0 41 (nI (psN (nnF st tn mn) w0 ft))) J0), (oa (a 1) cI 201 kd), (oa (a 5) cI 201 st), (oa (a 7) cI 201 gb), (oa (a 10) cI 201 it), (oa (a 8) cI 201 pa), (oa (a 9) cI 201 pb), (oa (a 2) cI 201 rk), (oa (a 3) cI 201 wd), (oa (a 4) cI 201 tw), (oa (a 6) cZ 201 tn), (oa (a 11) cI 201 mn), (oa (a 12) cI 8040 cx), (oa (a 13) cI 8040 cy), (oa (a 27) cI 516 (upd sa ((dn - bs) + 1) (nI (psN (nnF st tn mn) w0 ft)))), (oa b1 cI (4096 * cE) sh1)]) hP hD [0, 1, 2, 3, 4, 5, 6, 7, 8, 9, 10, 11, 12, 13, 14, 15] [] [] [0, 1, 2, 3, 4, 5, 6, 7, 8, 9, 10, 11, 12, 13, 14, 15] [0, 1, 2, 3, 4, 5, 6, 7, 8, 9, 10, 11, 12, 13, 14, 15] 16 rfl rfl rfl rfl rfl rfl rfl rfl rfl hk1 hFc hP1 hD1
  clear hk1 hPc hDc hFc hP1 hD1 ht
  obtain ⟨hP9, hD9⟩ := zq_sub (wc := [(om k0 (va_up a 28 b1) (upd I0 41 (nI (psN (nnF st tn mn) w0 ft))) J0), (oa (a 1) cI 201 kd), (oa (a 5) cI 201 st), (oa (a 7) cI 201 gb), (oa (a 10) cI 201 it), (oa (a 8) cI 201 pa), (oa (a 9) cI 201 pb), (oa (a 2) cI 201 rk), (oa (a 3) cI 201 wd), (oa (a 4) cI 201 tw), (oa (a 6) cZ 201 tn), (oa (a 11) cI 201 mn), (oa (a 12) cI 8040 cx), (oa (a 13) cI 8040 cy), (oa (a 27) cI 516 (upd sa ((dn - bs) + 1) (nI (psN (nnF st tn mn) w0 ft)))), (oa b1 cI (4096 * cE) sh1)]) hP hD [0, 1, 2, 3, 4, 5, 6, 7, 8, 9, 10, 11, 12, 13, 14, 15] rfl rfl
  refine W.widen (k := cE - cp) (n := 8192 * (cE - cp)) (by omega) (by omega) ?_
  rw [hQ9]
  exact W.vret hx hb hr (fun t ht hW => ⟨⟨rfl, b1, sh1, (hkf), (hkl), (hkb), (hko), by rw [ht]; exact hP9, hD9⟩, hS.F ht⟩) hS.2.2 dX11_begins_13
set_option maxHeartbeats 4000000 in
set_option maxRecDepth 100000 in
theorem k_M_ends (l : Launch) (dC : Nat → ClassId) (dI : Nat → Nat → Nat) (cI cZ cF : ClassId) (sz : Nat) (k0 : Nat) (a : Nat → Nat) (I0 : Nat → Int32) (J0 : Nat → Int64) (e1 : Int32) (e2 : Int32) (e3 : Int32) (dn : Nat) (bs : Nat) (ft : Nat) (w0 : Nat) (cp : Nat) (cE : Nat) (kd : Nat → Int32) (st : Nat → Int32) (gb : Nat → Int32) (it : Nat → Int32) (pa : Nat → Int32) (pb : Nat → Int32) (rk : Nat → Int32) (wd : Nat → Int32) (tw : Nat → Int32) (tn : Nat → Int32) (mn : Nat → Int32) (cx : Nat → Int32) (cy : Nat → Int32) (sa : Nat → Int32) (sh : Nat → Int32) (wh : Nat → Int32) (of9 : Nat → Int32) (we : Nat → Int32) (hft : I0 0 = nI ft) (h200 : ft ≤ 200) (hdn : I0 19 = nI dn) (hbs : I0 21 = nI bs) (hbd : bs ≤ dn) (hd512 : dn ≤ 512) (hi5 : (dn + 1 - bs) < 515) (hsa : sa (dn + 1 - bs) = nI w0) (hmn : ∀ f, f < ft → (tn f).toInt = 0 → ¬ (st f).toInt = 0 → mn f = nI (nN (mn f)) ∧ nN (mn f) ≤ 40) (hc1 : 1 ≤ cp) (hpw : pw cp cE) (hw0 : w0 ≤ 4096 * cp) (hfit : psN (nnF st tn mn) w0 ft ≤ 4096 * cE) (hmin : cE = cp ∨ 2048 * cE < psN (nnF st tn mn) w0 ft) (hcE : cE ≤ 512) : Met l yX11_ends (.code yX11_ends cX11_ends 4 (some .int) :: ws0) ({ frames := 2, cells := cE - cp, slots := 8192 * (cE - cp), locals := 47 } : Room) (va_Pc [.ref k0, .int e1, .int e2, .int e3] (zPre (dC, dI) classes (zTy cI cZ cF) [(om k0 a I0 J0), (oa (a 1) cI 201 kd), (oa (a 5) cI 201 st), (oa (a 7) cI 201 gb), (oa (a 10) cI 201 it), (oa (a 8) cI 201 pa), (oa (a 9) cI 201 pb), (oa (a 2) cI 201 rk), (oa (a 3) cI 201 wd), (oa (a 4) cI 201 tw), (oa (a 6) cZ 201 tn), (oa (a 11) cI 201 mn), (oa (a 12) cI 8040 cx), (oa (a 13) cI 8040 cy), (oa (a 27) cI 516 sa), (oa (a 28) cI (4096 * cp) sh), (oa (a 16) cI 514 wh), (oa (a 17) cI 514 of9), (oa (a 18) cI 514 we)] sz zXN)) (zQ (some (.int (nI (dn + 1)))) (fun t => ∃ (b1 : Nat), ∃ (sh1 : Nat → Int32), (sh1 w0 = nI ft) ∧ (∀ j, j < w0 → sh1 j = sh j) ∧ (∀ g, g < ft → ∀ j, j < 10 + 2 * nnF st tn mn g → sh1 (psN (nnF st tn mn) w0 g + j) = (shD kd st gb it pa pb rk wd tw (nnF st tn mn) cx cy) g j) ∧ (∀ j, psN (nnF st tn mn) w0 ft ≤ j → j < 4096 * cp → sh1 j = sh j) ∧ va_P (dC, dI) classes [(om k0 (va_up a 28 b1) (upd (upd (upd (upd I0 14 0) 19 (nI (dn + 1))) 20 0) 41 (nI (psN (nnF st tn mn) w0 ft))) J0), (oa (a 1) cI 201 kd), (oa (a 5) cI 201 st), (oa (a 7) cI 201 gb), (oa (a 10) cI 201 it), (oa (a 8) cI 201 pa), (oa (a 9) cI 201 pb), (oa (a 2) cI 201 rk), (oa (a 3) cI 201 wd), (oa (a 4) cI 201 tw), (oa (a 6) cZ 201 tn), (oa (a 11) cI 201 mn), (oa (a 12) cI 8040 cx), (oa (a 13) cI 8040 cy), (oa (a 27) cI 516 (upd sa ((dn + 1 - bs) + 1) (nI (psN (nnF st tn mn) w0 ft)))), (oa b1 cI (4096 * cE) sh1), (oa (a 16) cI 514 (upd wh (dn + 1) e1)), (oa (a 17) cI 514 (upd of9 (dn + 1) e2)), (oa (a 18) cI 514 (upd we (dn + 1) e3))] t.heap ∧ va_D (va_A [(om k0 a I0 J0), (oa (a 1) cI 201 kd), (oa (a 5) cI 201 st), (oa (a 7) cI 201 gb), (oa (a 10) cI 201 it), (oa (a 8) cI 201 pa), (oa (a 9) cI 201 pb), (oa (a 2) cI 201 rk), (oa (a 3) cI 201 wd), (oa (a 4) cI 201 tw), (oa (a 6) cZ 201 tn), (oa (a 11) cI 201 mn), (oa (a 12) cI 8040 cx), (oa (a 13) cI 8040 cy), (oa (a 27) cI 516 sa), (oa (a 28) cI (4096 * cp) sh), (oa (a 16) cI 514 wh), (oa (a 17) cI 514 of9), (oa (a 18) cI 514 we)] sz) [(om k0 (va_up a 28 b1) (upd (upd (upd (upd I0 14 0) 19 (nI (dn + 1))) 20 0) 41 (nI (psN (nnF st tn mn) w0 ft))) J0), (oa (a 1) cI 201 kd), (oa (a 5) cI 201 st), (oa (a 7) cI 201 gb), (oa (a 10) cI 201 it), (oa (a 8) cI 201 pa), (oa (a 9) cI 201 pb), (oa (a 2) cI 201 rk), (oa (a 3) cI 201 wd), (oa (a 4) cI 201 tw), (oa (a 6) cZ 201 tn), (oa (a 11) cI 201 mn), (oa (a 12) cI 8040 cx), (oa (a 13) cI 8040 cy), (oa (a 27) cI 516 (upd sa ((dn + 1 - bs) + 1) (nI (psN (nnF st tn mn) w0 ft)))), (oa b1 cI (4096 * cE) sh1), (oa (a 16) cI 514 (upd wh (dn + 1) e1)), (oa (a 17) cI 514 (upd of9 (dn + 1) e2)), (oa (a 18) cI 514 (upd we (dn + 1) e3))]) (va_A [(om k0 a I0 J0), (oa (a 1) cI 201 kd), (oa (a 5) cI 201 st), (oa (a 7) cI 201 gb), (oa (a 10) cI 201 it), (oa (a 8) cI 201 pa), (oa (a 9) cI 201 pb), (oa (a 2) cI 201 rk), (oa (a 3) cI 201 wd), (oa (a 4) cI 201 tw), (oa (a 6) cZ 201 tn), (oa (a 11) cI 201 mn), (oa (a 12) cI 8040 cx), (oa (a 13) cI 8040 cy), (oa (a 27) cI 516 sa), (oa (a 28) cI (4096 * cp) sh), (oa (a 16) cI 514 wh), (oa (a 17) cI 514 of9), (oa (a 18) cI 514 we)] sz)) (cE - cp) (8192 * (cE - cp)) (va_A [(om k0 a I0 J0), (oa (a 1) cI 201 kd), (oa (a 5) cI 201 st), (oa (a 7) cI 201 gb), (oa (a 10) cI 201 it), (oa (a 8) cI 201 pa), (oa (a 9) cI 201 pb), (oa (a 2) cI 201 rk), (oa (a 3) cI 201 wd), (oa (a 4) cI 201 tw), (oa (a 6) cZ 201 tn), (oa (a 11) cI 201 mn), (oa (a 12) cI 8040 cx), (oa (a 13) cI 8040 cy), (oa (a 27) cI 516 sa), (oa (a 28) cI (4096 * cp) sh), (oa (a 16) cI 514 wh), (oa (a 17) cI 514 of9), (oa (a 18) cI 514 we)] sz) := by
  refine Met.ofW (cc := cX11_ends) (maxL := 4) (ret := (some .int)) rfl rfl ?_
  intro p e s m args below meth c s₁ B hml hv
  obtain ⟨rfl, hsz, hP, hK, hD0, hXN⟩ := hv
  have hx := B.exec
  have hb := B.bytes
  have hr := B.returns
  have hts0 := atoms_spec (ws := .code yX11_ends cX11_ends 4 (some .int) :: ws0) B.pre
  have hts : ∀ w9 ∈ ws0, w9.before ([.ref k0, .int e1, .int e2, .int e3] : List Value).toArray s = true := fun w9 h => hts0 w9 (List.mem_cons_of_mem _ h)
  have hown : s.vm.findClass "ScaleShopModel" = some m.cls := findClass_of_methodNamed B.named
  have hlocks := B.notSynchronized
  subst hsz
  have hD := hD0.self (sz := s.heap.size)
  clear hD0
  generalize hAe : va_A [(om k0 a I0 J0), (oa (a 1) cI 201 kd), (oa (a 5) cI 201 st), (oa (a 7) cI 201 gb), (oa (a 10) cI 201 it), (oa (a 8) cI 201 pa), (oa (a 9) cI 201 pb), (oa (a 2) cI 201 rk), (oa (a 3) cI 201 wd), (oa (a 4) cI 201 tw), (oa (a 6) cZ 201 tn), (oa (a 11) cI 201 mn), (oa (a 12) cI 8040 cx), (oa (a 13) cI 8040 cy), (oa (a 27) cI 516 sa), (oa (a 28) cI (4096 * cp) sh), (oa (a 16) cI 514 wh), (oa (a 17) cI 514 of9), (oa (a 18) cI 514 we)] s.heap.size = A at hD ⊢
  have hA : ∀ q : Nat, s.heap.size ≤ q → A q := fun q h => by rw [← hAe]; exact Or.inr h
  clear hAe
  have hS : va_S A s.heap s.heap [] := va_S.rf
  have hP : va_P (dC, dI) classes [(om k0 a I0 J0), (oa (a 1) cI 201 kd), (oa (a 5) cI 201 st), (oa (a 7) cI 201 gb), (oa (a 10) cI 201 it), (oa (a 8) cI 201 pa), (oa (a 9) cI 201 pb), (oa (a 2) cI 201 rk), (oa (a 3) cI 201 wd), (oa (a 4) cI 201 tw), (oa (a 6) cZ 201 tn), (oa (a 11) cI 201 mn), (oa (a 12) cI 8040 cx), (oa (a 13) cI 8040 cy), (oa (a 27) cI 516 sa), (oa (a 28) cI (4096 * cp) sh), (oa (a 16) cI 514 wh), (oa (a 17) cI 514 of9), (oa (a 18) cI 514 we)] s.heap := hP
  obtain ⟨Q9, hQ9⟩ : ∃ Q9 : State → Prop, Q9 = MQ below (zQ (some (.int (nI (dn + 1)))) (fun t => ∃ (b1 : Nat), ∃ (sh1 : Nat → Int32), (sh1 w0 = nI ft) ∧ (∀ j, j < w0 → sh1 j = sh j) ∧ (∀ g, g < ft → ∀ j, j < 10 + 2 * nnF st tn mn g → sh1 (psN (nnF st tn mn) w0 g + j) = (shD kd st gb it pa pb rk wd tw (nnF st tn mn) cx cy) g j) ∧ (∀ j, psN (nnF st tn mn) w0 ft ≤ j → j < 4096 * cp → sh1 j = sh j) ∧ va_P (dC, dI) classes [(om k0 (va_up a 28 b1) (upd (upd (upd (upd I0 14 0) 19 (nI (dn + 1))) 20 0) 41 (nI (psN (nnF st tn mn) w0 ft))) J0), (oa (a 1) cI 201 kd), (oa (a 5) cI 201 st), (oa (a 7) cI 201 gb), (oa (a 10) cI 201 it), (oa (a 8) cI 201 pa), (oa (a 9) cI 201 pb), (oa (a 2) cI 201 rk), (oa (a 3) cI 201 wd), (oa (a 4) cI 201 tw), (oa (a 6) cZ 201 tn), (oa (a 11) cI 201 mn), (oa (a 12) cI 8040 cx), (oa (a 13) cI 8040 cy), (oa (a 27) cI 516 (upd sa ((dn + 1 - bs) + 1) (nI (psN (nnF st tn mn) w0 ft)))), (oa b1 cI (4096 * cE) sh1), (oa (a 16) cI 514 (upd wh (dn + 1) e1)), (oa (a 17) cI 514 (upd of9 (dn + 1) e2)), (oa (a 18) cI 514 (upd we (dn + 1) e3))] t.heap ∧ va_D A [(om k0 (va_up a 28 b1) (upd (upd (upd (upd I0 14 0) 19 (nI (dn + 1))) 20 0) 41 (nI (psN (nnF st tn mn) w0 ft))) J0), (oa (a 1) cI 201 kd), (oa (a 5) cI 201 st), (oa (a 7) cI 201 gb), (oa (a 10) cI 201 it), (oa (a 8) cI 201 pa), (oa (a 9) cI 201 pb), (oa (a 2) cI 201 rk), (oa (a 3) cI 201 wd), (oa (a 4) cI 201 tw), (oa (a 6) cZ 201 tn), (oa (a 11) cI 201 mn), (oa (a 12) cI 8040 cx), (oa (a 13) cI 8040 cy), (oa (a 27) cI 516 (upd sa ((dn + 1 - bs) + 1) (nI (psN (nnF st tn mn) w0 ft)))), (oa b1 cI (4096 * cE) sh1), (oa (a 16) cI 514 (upd wh (dn + 1) e1)), (oa (a 17) cI 514 (upd of9 (dn + 1) e2)), (oa (a 18) cI 514 (upd we (dn + 1) e3))]) A) ([.ref k0, .int e1, .int e2, .int e3] : List Value).toArray s (cE - cp) (8192 * (cE - cp)) A := ⟨_, rfl⟩
  rw [← hQ9]
  have hl := lv_entry ([.ref k0, .int e1, .int e2, .int e3]) (n := 4) (Nat.le_of_ble_eq_true rfl)
  rw [lg_entry_eq]
  generalize (lg_sl ([.ref k0, .int e1, .int e2, .int e3]) ++ List.replicate (4 - (lg_sl ([.ref k0, .int e1, .int e2, .int e3])).length) Slot.unset).toArray = ls at hl ⊢
  have hl : lv_has ls 4 [(0, .ref k0), (1, .int e1), (2, .int e2), (3, .int e3)] := hl
  refine lv_aload_n hx hb dX11_ends_0 rfl (lv_at hl 0 rfl) ?_
  refine lv_dup hx hb dX11_ends_1 rfl ?_
  refine va_get (D := (dC, dI)) (ci := 9) (v := .int (I0 19)) (C := RX11) (T := TX11) (N := 55) hx hb hts inX11 hown hK hP 0 rfl rfl 19 (Nat.le_of_ble_eq_true rfl) (hts _ mw_1178) (fun _ h9 => h9) rfl dX11_ends_2 ?_
  refine zz_i (v := nI dn) (hdn) ?_
  refine lv_iconst (v := 1) hx hb dX11_ends_5 rfl ?_
  refine lv_iadd hx hb dX11_ends_6 ?_
  refine zz_i (v := nI (dn + 1)) (nI_add dn 1) ?_
  refine va_put (D := (dC, dI)) (ci := 9) (v := .int (nI (dn + 1))) (ty := .int) (C := RX11) (T := TX11) (N := 55) hx hb hts inX11 tyX11 tyX11_ok nmX11 hown hK hP hD hS 0 rfl rfl 19 (by decide) (hts _ mw_1178) (fun _ h9 => h9) rfl (by decide +kernel) rfl rfl (Nat.le_of_ble_eq_true rfl) dX11_ends_7 (fun H locs hP hD hS => ?_)
  obtain ⟨hP, hD⟩ : zPD (dC, dI) classes A [(om k0 a (upd I0 19 (nI (dn + 1))) J0), (oa (a 1) cI 201 kd), (oa (a 5) cI 201 st), (oa (a 7) cI 201 gb), (oa (a 10) cI 201 it), (oa (a 8) cI 201 pa), (oa (a 9) cI 201 pb), (oa (a 2) cI 201 rk), (oa (a 3) cI 201 wd), (oa (a 4) cI 201 tw), (oa (a 6) cZ 201 tn), (oa (a 11) cI 201 mn), (oa (a 12) cI 8040 cx), (oa (a 13) cI 8040 cy), (oa (a 27) cI 516 sa), (oa (a 28) cI (4096 * cp) sh), (oa (a 16) cI 514 wh), (oa (a 17) cI 514 of9), (oa (a 18) cI 514 we)] H := ⟨hP, hD⟩
  refine lv_aload_n hx hb dX11_ends_10 rfl (lv_at hl 0 rfl) ?_
  refine lv_iconst (v := 0) hx hb dX11_ends_11 rfl ?_
  refine va_put (D := (dC, dI)) (ci := 9) (v := .int 0) (ty := .int) (C := RX11) (T := TX11) (N := 55) hx hb hts inX11 tyX11 tyX11_ok nmX11 hown hK hP hD hS 0 rfl rfl 20 (by decide) (hts _ mw_1179) (fun _ h9 => h9) rfl (by decide +kernel) rfl rfl (Nat.le_of_ble_eq_true rfl) dX11_ends_12 (fun H locs hP hD hS => ?_)
  obtain ⟨hP, hD⟩ : zPD (dC, dI) classes A [(om k0 a (upd (upd I0 19 (nI (dn + 1))) 20 0) J0), (oa (a 1) cI 201 kd), (oa (a 5) cI 201 st), (oa (a 7) cI 201 gb), (oa (a 10) cI 201 it), (oa (a 8) cI 201 pa), (oa (a 9) cI 201 pb), (oa (a 2) cI 201 rk), (oa (a 3) cI 201 wd), (oa (a 4) cI 201 tw), (oa (a 6) cZ 201 tn), (oa (a 11) cI 201 mn), (oa (a 12) cI 8040 cx), (oa (a 13) cI 8040 cy), (oa (a 27) cI 516 sa), (oa (a 28) cI (4096 * cp) sh), (oa (a 16) cI 514 wh), (oa (a 17) cI 514 of9), (oa (a 18) cI 514 we)] H := ⟨hP, hD⟩
  refine lv_aload_n hx hb dX11_ends_15 rfl (lv_at hl 0 rfl) ?_
  refine va_get (D := (dC, dI)) (ci := 9) (v := .ref (a 16)) (C := RX11) (T := TX11) (N := 55) hx hb hts inX11 hown hK hP 0 rfl rfl 16 (Nat.le_of_ble_eq_true rfl) (hts _ mw_1175) (fun _ h9 => h9) rfl dX11_ends_16 ?_
  refine lv_aload_n hx hb dX11_ends_19 rfl (lv_at hl 0 rfl) ?_
  refine va_get (D := (dC, dI)) (ci := 9) (v := .int (nI (dn + 1))) (C := RX11) (T := TX11) (N := 55) hx hb hts inX11 hown hK hP 0 rfl rfl 19 (Nat.le_of_ble_eq_true rfl) (hts _ mw_1178) (fun _ h9 => h9) rfl dX11_ends_20 ?_
  refine lv_iload_n hx hb dX11_ends_23 rfl (lv_at hl 1 rfl) ?_
  have b9_1 : dn + 1 < 514 := by omega
  refine z_iast hx hb hK hP hD hS 16 0 rfl rfl (e := dn + 1) (x := e1) rfl b9_1 (Nat.le_of_ble_eq_true rfl) dX11_ends_24 (fun H locs hP hD hS => ?_)
  obtain ⟨hP, hD⟩ : zPD (dC, dI) classes A [(om k0 a (upd (upd I0 19 (nI (dn + 1))) 20 0) J0), (oa (a 1) cI 201 kd), (oa (a 5) cI 201 st), (oa (a 7) cI 201 gb), (oa (a 10) cI 201 it), (oa (a 8) cI 201 pa), (oa (a 9) cI 201 pb), (oa (a 2) cI 201 rk), (oa (a 3) cI 201 wd), (oa (a 4) cI 201 tw), (oa (a 6) cZ 201 tn), (oa (a 11) cI 201 mn), (oa (a 12) cI 8040 cx), (oa (a 13) cI 8040 cy), (oa (a 27) cI 516 sa), (oa (a 28) cI (4096 * cp) sh), (oa (a 16) cI 514 (upd wh (dn + 1) e1)), (oa (a 17) cI 514 of9), (oa (a 18) cI 514 we)] H := ⟨hP, hD⟩
  refine lv_aload_n hx hb dX11_ends_25 rfl (lv_at hl 0 rfl) ?_
  refine va_get (D := (dC, dI)) (ci := 9) (v := .ref (a 17)) (C := RX11) (T := TX11) (N := 55) hx hb hts inX11 hown hK hP 0 rfl rfl 17 (Nat.le_of_ble_eq_true rfl) (hts _ mw_1176) (fun _ h9 => h9) rfl dX11_ends_26 ?_
  refine lv_aload_n hx hb dX11_ends_29 rfl (lv_at hl 0 rfl) ?_
  refine va_get (D := (dC, dI)) (ci := 9) (v := .int (nI (dn + 1))) (C := RX11) (T := TX11) (N := 55) hx hb hts inX11 hown hK hP 0 rfl rfl 19 (Nat.le_of_ble_eq_true rfl) (hts _ mw_1178) (fun _ h9 => h9) rfl dX11_ends_30 ?_
  refine lv_iload_n hx hb dX11_ends_33 rfl (lv_at hl 2 rfl) ?_
  refine z_iast hx hb hK hP hD hS 17 0 rfl rfl (e := dn + 1) (x := e2) rfl b9_1 (Nat.le_of_ble_eq_true rfl) dX11_ends_34 (fun H locs hP hD hS => ?_)
  obtain ⟨hP, hD⟩ : zPD (dC, dI) classes A [(om k0 a (upd (upd I0 19 (nI (dn + 1))) 20 0) J0), (oa (a 1) cI 201 kd), (oa (a 5) cI 201 st), (oa (a 7) cI 201 gb), (oa (a 10) cI 201 it), (oa (a 8) cI 201 pa), (oa (a 9) cI 201 pb), (oa (a 2) cI 201 rk), (oa (a 3) cI 201 wd), (oa (a 4) cI 201 tw), (oa (a 6) cZ 201 tn), (oa (a 11) cI 201 mn), (oa (a 12) cI 8040 cx), (oa (a 13) cI 8040 cy), (oa (a 27) cI 516 sa), (oa (a 28) cI (4096 * cp) sh), (oa (a 16) cI 514 (upd wh (dn + 1) e1)), (oa (a 17) cI 514 (upd of9 (dn + 1) e2)), (oa (a 18) cI 514 we)] H := ⟨hP, hD⟩
  refine lv_aload_n hx hb dX11_ends_35 rfl (lv_at hl 0 rfl) ?_
  refine va_get (D := (dC, dI)) (ci := 9) (v := .ref (a 18)) (C := RX11) (T := TX11) (N := 55) hx hb hts inX11 hown hK hP 0 rfl rfl 18 (Nat.le_of_ble_eq_true rfl) (hts _ mw_1177) (fun _ h9 => h9) rfl dX11_ends_36 ?_
  refine lv_aload_n hx hb dX11_ends_39 rfl (lv_at hl 0 rfl) ?_
  refine va_get (D := (dC, dI)) (ci := 9) (v := .int (nI (dn + 1))) (C := RX11) (T := TX11) (N := 55) hx hb hts inX11 hown hK hP 0 rfl rfl 19 (Nat.le_of_ble_eq_true rfl) (hts _ mw_1178) (fun _ h9 => h9) rfl dX11_ends_40 ?_
  refine lv_iload_n hx hb dX11_ends_43 rfl (lv_at hl 3 rfl) ?_
  refine z_iast hx hb hK hP hD hS 18 0 rfl rfl (e := dn + 1) (x := e3) rfl b9_1 (Nat.le_of_ble_eq_true rfl) dX11_ends_44 (fun H locs hP hD hS => ?_)
  obtain ⟨hP, hD⟩ : zPD (dC, dI) classes A [(om k0 a (upd (upd I0 19 (nI (dn + 1))) 20 0) J0), (oa (a 1) cI 201 kd), (oa (a 5) cI 201 st), (oa (a 7) cI 201 gb), (oa (a 10) cI 201 it), (oa (a 8) cI 201 pa), (oa (a 9) cI 201 pb), (oa (a 2) cI 201 rk), (oa (a 3) cI 201 wd), (oa (a 4) cI 201 tw), (oa (a 6) cZ 201 tn), (oa (a 11) cI 201 mn), (oa (a 12) cI 8040 cx), (oa (a 13) cI 8040 cy), (oa (a 27) cI 516 sa), (oa (a 28) cI (4096 * cp) sh), (oa (a 16) cI 514 (upd wh (dn + 1) e1)), (oa (a 17) cI 514 (upd of9 (dn + 1) e2)), (oa (a 18) cI 514 (upd we (dn + 1) e3))] H := ⟨hP, hD⟩
  refine lv_aload_n hx hb dX11_ends_45 rfl (lv_at hl 0 rfl) ?_
  refine lv_aload_n hx hb dX11_ends_46 rfl (lv_at hl 0 rfl) ?_
  refine va_get (D := (dC, dI)) (ci := 9) (v := .int (nI (dn + 1))) (C := RX11) (T := TX11) (N := 55) hx hb hts inX11 hown hK hP 0 rfl rfl 19 (Nat.le_of_ble_eq_true rfl) (hts _ mw_1178) (fun _ h9 => h9) rfl dX11_ends_47 ?_
  refine lv_aload_n hx hb dX11_ends_50 rfl (lv_at hl 0 rfl) ?_
  refine va_get (D := (dC, dI)) (ci := 9) (v := .int (I0 21)) (C := RX11) (T := TX11) (N := 55) hx hb hts inX11 hown hK hP 0 rfl rfl 21 (Nat.le_of_ble_eq_true rfl) (hts _ mw_1180) (fun _ h9 => h9) rfl dX11_ends_51 ?_
  refine zz_i (v := nI bs) (hbs) ?_
  refine lv_isub hx hb dX11_ends_54 ?_
  refine zz_i (v := nI ((dn + 1) - bs)) (pk_sub (a := dn + 1) (b := bs) (by omega)) ?_
  obtain ⟨hPc, hDc, hFc⟩ := zc_sub (wc := [(om k0 a (upd (upd I0 19 (nI (dn + 1))) 20 0) J0), (oa (a 1) cI 201 kd), (oa (a 5) cI 201 st), (oa (a 7) cI 201 gb), (oa (a 10) cI 201 it), (oa (a 8) cI 201 pa), (oa (a 9) cI 201 pb), (oa (a 2) cI 201 rk), (oa (a 3) cI 201 wd), (oa (a 4) cI 201 tw), (oa (a 6) cZ 201 tn), (oa (a 11) cI 201 mn), (oa (a 12) cI 8040 cx), (oa (a 13) cI 8040 cy), (oa (a 27) cI 516 sa), (oa (a 28) cI (4096 * cp) sh)]) hP hD hS hA [0, 1, 2, 3, 4, 5, 6, 7, 8, 9, 10, 11, 12, 13, 14, 15] rfl rfl
  refine zcall (st1 := []) (va_runV (As := [.int (nI ((dn + 1) - bs))]) (rest := []) ⟨hx, hb, hml, hown, hts⟩ (k_M_keep l dC dI cI cZ cF H.size k0 a (upd (upd I0 19 (nI (dn + 1))) 20 0) J0 ((dn + 1) - bs) ft w0 cp cE kd st gb it pa pb rk wd tw tn mn cx cy sa sh (by first | with_reducible assumption | assumption) (by first | with_reducible assumption | omega) (by first | with_reducible assumption | omega) (by first | with_reducible assumption | assumption) (by first | with_reducible assumption | assumption) (by first | with_reducible assumption | omega) (by first | with_reducible assumption | assumption) (by first | with_reducible assumption | omega) (by first | with_reducible assumption | assumption) (by first | with_reducible assumption | assumption) (by first | with_reducible assumption | omega)) (csV_195 hts rfl rfl ⟨Nat.le_of_ble_eq_true rfl, Nat.le_of_ble_eq_true rfl⟩) (zPV2 (q0 := 0) (ci := 9) hPc hDc hK hXN rfl rfl) rfl rfl hl.1 rfl (lv_room (Nat.le_of_ble_eq_true rfl)) dX11_ends_55 ⟨show (0 + (cE - cp)) ≤ cE - cp by omega, show (0 + (8192 * (cE - cp))) ≤ 8192 * (cE - cp) by omega⟩) hS hFc hFc rfl (fun t H locs ht hB hk1 hS => ?_)
  obtain ⟨b1, sh1, hkf, hkl, hkb, hko, hP1, hD1⟩ := hB
  rw [ht] at hP1
  obtain ⟨hP, hD⟩ := zk (W2 := [(oa (a 16) cI 514 (upd wh (dn + 1) e1)), (oa (a 17) cI 514 (upd of9 (dn + 1) e2)), (oa (a 18) cI 514 (upd we (dn + 1) e3)), (om k0 (va_up a 28 b1) (upd (upd (upd I0 19 (nI (dn + 1))) 20 0) 41 (nI (psN (nnF st tn mn) w0 ft))) J0), (oa (a 1) cI 201 kd), (oa (a 5) cI 201 st), (oa (a 7) cI 201 gb), (oa (a 10) cI 201 it), (oa (a 8) cI 201 pa), (oa (a 9) cI 201 pb), (oa (a 2) cI 201 rk), (oa (a 3) cI 201 wd), (oa (a 4) cI 201 tw), (oa (a 6) cZ 201 tn), (oa (a 11) cI 201 mn), (oa (a 12) cI 8040 cx), (oa (a 13) cI 8040 cy), (oa (a 27) cI 516 (upd sa (((dn + 1) - bs) + 1) (nI (psN (nnF st tn mn) w0 ft)))), (oa b1 cI (4096 * cE) sh1)]) hP hD [0, 1, 2, 3, 4, 5, 6, 7, 8, 9, 10, 11, 12, 13, 14, 15] [16, 17, 18] [0, 1, 2] [3, 4, 5, 6, 7, 8, 9, 10, 11, 12, 13, 14, 15, 16, 17, 18] [0, 1, 2, 3, 4, 5, 6, 7, 8, 9, 10, 11, 12, 13, 14, 15, 16, 17, 18] 19 rfl rfl rfl rfl rfl rfl rfl rfl rfl hk1 hFc hP1 hD1
  clear hk1 hPc hDc hFc hP1 hD1 ht
  refine lv_aload_n hx hb dX11_ends_58 rfl (lv_at hl 0 rfl) ?_
  refine lv_iconst (v := 0) hx hb dX11_ends_59 rfl ?_
  refine va_put (D := (dC, dI)) (ci := 9) (v := .int 0) (ty := .int) (C := RX11) (T := TX11) (N := 55) hx hb hts inX11 tyX11 tyX11_ok nmX11 hown hK hP hD hS 3 rfl rfl 14 (by decide) (hts _ mw_1173) (fun _ h9 => h9) rfl (by decide +kernel) rfl rfl (Nat.le_of_ble_eq_true rfl) dX11_ends_60 (fun H locs hP hD hS => ?_)
  obtain ⟨hP, hD⟩ : zPD (dC, dI) classes A [(oa (a 16) cI 514 (upd wh (dn + 1) e1)), (oa (a 17) cI 514 (upd of9 (dn + 1) e2)), (oa (a 18) cI 514 (upd we (dn + 1) e3)), (om k0 (va_up a 28 b1) (upd (upd (upd (upd I0 14 0) 19 (nI (dn + 1))) 20 0) 41 (nI (psN (nnF st tn mn) w0 ft))) J0), (oa (a 1) cI 201 kd), (oa (a 5) cI 201 st), (oa (a 7) cI 201 gb), (oa (a 10) cI 201 it), (oa (a 8) cI 201 pa), (oa (a 9) cI 201 pb), (oa (a 2) cI 201 rk), (oa (a 3) cI 201 wd), (oa (a 4) cI 201 tw), (oa (a 6) cZ 201 tn), (oa (a 11) cI 201 mn), (oa (a 12) cI 8040 cx), (oa (a 13) cI 8040 cy), (oa (a 27) cI 516 (upd sa (((dn + 1) - bs) + 1) (nI (psN (nnF st tn mn) w0 ft)))), (oa b1 cI (4096 * cE) sh1)] H := ⟨hP, hD⟩
  refine lv_aload_n hx hb dX11_ends_63 rfl (lv_at hl 0 rfl) ?_
  refine va_get (D := (dC, dI)) (ci := 9) (v := .int (nI (dn + 1))) (C := RX11) (T := TX11) (N := 55) hx hb hts inX11 hown hK hP 3 rfl rfl 19 (Nat.le_of_ble_eq_true rfl) (hts _ mw_1178) (fun _ h9 => h9) rfl dX11_ends_64 ?_
  obtain ⟨hP9, hD9⟩ := zq_sub (wc := [(om k0 (va_up a 28 b1) (upd (upd (upd (upd I0 14 0) 19 (nI (dn + 1))) 20 0) 41 (nI (psN (nnF st tn mn) w0 ft))) J0), (oa (a 1) cI 201 kd), (oa (a 5) cI 201 st), (oa (a 7) cI 201 gb), (oa (a 10) cI 201 it), (oa (a 8) cI 201 pa), (oa (a 9) cI 201 pb), (oa (a 2) cI 201 rk), (oa (a 3) cI 201 wd), (oa (a 4) cI 201 tw), (oa (a 6) cZ 201 tn), (oa (a 11) cI 201 mn), (oa (a 12) cI 8040 cx), (oa (a 13) cI 8040 cy), (oa (a 27) cI 516 (upd sa (((dn + 1) - bs) + 1) (nI (psN (nnF st tn mn) w0 ft)))), (oa b1 cI (4096 * cE) sh1), (oa (a 16) cI 514 (upd wh (dn + 1) e1)), (oa (a 17) cI 514 (upd of9 (dn + 1) e2)), (oa (a 18) cI 514 (upd we (dn + 1) e3))]) hP hD [3, 4, 5, 6, 7, 8, 9, 10, 11, 12, 13, 14, 15, 16, 17, 18, 0, 1, 2] rfl rfl
  refine W.widen (k := cE - cp) (n := 8192 * (cE - cp)) (by omega) (by omega) ?_
  rw [hQ9]
  exact W.iret (v := nI (dn + 1)) hx hb hr (fun t ht hW => ⟨⟨rfl, b1, sh1, (hkf), (hkl), (hkb), (hko), by rw [ht]; exact hP9, hD9⟩, hS.F ht⟩) hS.2.2 dX11_ends_67
set_option maxHeartbeats 4000000 in
set_option maxRecDepth 100000 in
theorem k_M_lose (l : Launch) (dC : Nat → ClassId) (dI : Nat → Nat → Nat) (cI cZ cF : ClassId) (sz : Nat) (k0 : Nat) (a : Nat → Nat) (I0 : Nat → Int32) (J0 : Nat → Int64) (e1 : Int32) (e2 : Int32) (e3 : Int32) (e4 : Int32) (ln : Nat) (cl : Nat) (la : Nat → Int32) (lb : Nat → Int32) (lc : Nat → Int32) (ld : Nat → Int32) (hln : I0 26 = nI ln) (hlc : ln ≤ 64 * cl) (hcl1 : 1 ≤ cl) (hclm : cl ≤ 1000000) : Met l yX11_lose (.code yX11_lose cX11_lose 11 none :: ws0) ({ frames := 0, cells := 4 * (dl cl ln - cl), slots := 512 * (dl cl ln - cl), locals := 0 } : Room) (va_Pc [.ref k0, .int e1, .int e2, .int e3, .int e4] (zPre (dC, dI) classes (zTy cI cZ cF) [(om k0 a I0 J0), (oa (a 22) cI (64 * cl) la), (oa (a 23) cI (64 * cl) lb), (oa (a 24) cI (64 * cl) lc), (oa (a 25) cI (64 * cl) ld)] sz zXN)) (zQ none (fun t => ∃ (bl0 : Nat), ∃ (bl1 : Nat), ∃ (bl2 : Nat), ∃ (bl3 : Nat), ∃ (cl1 : Nat), ∃ (la1 : Nat → Int32), ∃ (lb1 : Nat → Int32), ∃ (lc1 : Nat → Int32), ∃ (ld1 : Nat → Int32), (cl1 = dl cl ln) ∧ (la1 ln = e1) ∧ (lb1 ln = e2) ∧ (lc1 ln = e3) ∧ (ld1 ln = e4) ∧ (∀ j, j < ln → la1 j = la j) ∧ (∀ j, j < ln → lb1 j = lb j) ∧ (∀ j, j < ln → lc1 j = lc j) ∧ (∀ j, j < ln → ld1 j = ld j) ∧ va_P (dC, dI) classes [(om k0 (va_up (va_up (va_up (va_up a 22 bl0) 23 bl1) 24 bl2) 25 bl3) (upd I0 26 (nI (ln + 1))) J0), (oa bl0 cI (64 * cl1) la1), (oa bl1 cI (64 * cl1) lb1), (oa bl2 cI (64 * cl1) lc1), (oa bl3 cI (64 * cl1) ld1)] t.heap ∧ va_D (va_A [(om k0 a I0 J0), (oa (a 22) cI (64 * cl) la), (oa (a 23) cI (64 * cl) lb), (oa (a 24) cI (64 * cl) lc), (oa (a 25) cI (64 * cl) ld)] sz) [(om k0 (va_up (va_up (va_up (va_up a 22 bl0) 23 bl1) 24 bl2) 25 bl3) (upd I0 26 (nI (ln + 1))) J0), (oa bl0 cI (64 * cl1) la1), (oa bl1 cI (64 * cl1) lb1), (oa bl2 cI (64 * cl1) lc1), (oa bl3 cI (64 * cl1) ld1)]) (va_A [(om k0 a I0 J0), (oa (a 22) cI (64 * cl) la), (oa (a 23) cI (64 * cl) lb), (oa (a 24) cI (64 * cl) lc), (oa (a 25) cI (64 * cl) ld)] sz)) (4 * (dl cl ln - cl)) (512 * (dl cl ln - cl)) (va_A [(om k0 a I0 J0), (oa (a 22) cI (64 * cl) la), (oa (a 23) cI (64 * cl) lb), (oa (a 24) cI (64 * cl) lc), (oa (a 25) cI (64 * cl) ld)] sz) := by
  refine Met.ofW (cc := cX11_lose) (maxL := 11) (ret := none) rfl rfl ?_
  intro p e s m args below meth c s₁ B hml hv
  obtain ⟨rfl, hsz, hP, hK, hD0, hXN⟩ := hv
  have hx := B.exec
  have hb := B.bytes
  have hr := B.returns
  have hts0 := atoms_spec (ws := .code yX11_lose cX11_lose 11 none :: ws0) B.pre
  have hts : ∀ w9 ∈ ws0, w9.before ([.ref k0, .int e1, .int e2, .int e3, .int e4] : List Value).toArray s = true := fun w9 h => hts0 w9 (List.mem_cons_of_mem _ h)
  have hown : s.vm.findClass "ScaleShopModel" = some m.cls := findClass_of_methodNamed B.named
  have hlocks := B.notSynchronized
  subst hsz
  have hD := hD0.self (sz := s.heap.size)
  clear hD0
  generalize hAe : va_A [(om k0 a I0 J0), (oa (a 22) cI (64 * cl) la), (oa (a 23) cI (64 * cl) lb), (oa (a 24) cI (64 * cl) lc), (oa (a 25) cI (64 * cl) ld)] s.heap.size = A at hD ⊢
  have hA : ∀ q : Nat, s.heap.size ≤ q → A q := fun q h => by rw [← hAe]; exact Or.inr h
  clear hAe
  have hS : va_S A s.heap s.heap [] := va_S.rf
  have hP : va_P (dC, dI) classes [(om k0 a I0 J0), (oa (a 22) cI (64 * cl) la), (oa (a 23) cI (64 * cl) lb), (oa (a 24) cI (64 * cl) lc), (oa (a 25) cI (64 * cl) ld)] s.heap := hP
  obtain ⟨Q9, hQ9⟩ : ∃ Q9 : State → Prop, Q9 = MQ below (zQ none (fun t => ∃ (bl0 : Nat), ∃ (bl1 : Nat), ∃ (bl2 : Nat), ∃ (bl3 : Nat), ∃ (cl1 : Nat), ∃ (la1 : Nat → Int32), ∃ (lb1 : Nat → Int32), ∃ (lc1 : Nat → Int32), ∃ (ld1 : Nat → Int32), (cl1 = dl cl ln) ∧ (la1 ln = e1) ∧ (lb1 ln = e2) ∧ (lc1 ln = e3) ∧ (ld1 ln = e4) ∧ (∀ j, j < ln → la1 j = la j) ∧ (∀ j, j < ln → lb1 j = lb j) ∧ (∀ j, j < ln → lc1 j = lc j) ∧ (∀ j, j < ln → ld1 j = ld j) ∧ va_P (dC, dI) classes [(om k0 (va_up (va_up (va_up (va_up a 22 bl0) 23 bl1) 24 bl2) 25 bl3) (upd I0 26 (nI (ln + 1))) J0), (oa bl0 cI (64 * cl1) la1), (oa bl1 cI (64 * cl1) lb1), (oa bl2 cI (64 * cl1) lc1), (oa bl3 cI (64 * cl1) ld1)] t.heap ∧ va_D A [(om k0 (va_up (va_up (va_up (va_up a 22 bl0) 23 bl1) 24 bl2) 25 bl3) (upd I0 26 (nI (ln + 1))) J0), (oa bl0 cI (64 * cl1) la1), (oa bl1 cI (64 * cl1) lb1), (oa bl2 cI (64 * cl1) lc1), (oa bl3 cI (64 * cl1) ld1)]) A) ([.ref k0, .int e1, .int e2, .int e3, .int e4] : List Value).toArray s (4 * (dl cl ln - cl)) (512 * (dl cl ln - cl)) A := ⟨_, rfl⟩
  rw [← hQ9]
  have hl := lv_entry ([.ref k0, .int e1, .int e2, .int e3, .int e4]) (n := 11) (Nat.le_of_ble_eq_true rfl)
  rw [lg_entry_eq]
  generalize (lg_sl ([.ref k0, .int e1, .int e2, .int e3, .int e4]) ++ List.replicate (11 - (lg_sl ([.ref k0, .int e1, .int e2, .int e3, .int e4])).length) Slot.unset).toArray = ls at hl ⊢
  have hl : lv_has ls 11 [(0, .ref k0), (1, .int e1), (2, .int e2), (3, .int e3), (4, .int e4)] := hl
  have hdl : dl cl ln = if ln = 64 * cl then 2 * cl else cl := rfl
  refine lv_aload_n hx hb dX11_lose_0 rfl (lv_at hl 0 rfl) ?_
  refine va_get (D := (dC, dI)) (ci := 9) (v := .int (I0 26)) (C := RX11) (T := TX11) (N := 55) hx hb hts inX11 hown hK hP 0 rfl rfl 26 (Nat.le_of_ble_eq_true rfl) (hts _ mw_1185) (fun _ h9 => h9) rfl dX11_lose_1 ?_
  refine zz_i (v := nI ln) (hln) ?_
  refine lv_aload_n hx hb dX11_lose_4 rfl (lv_at hl 0 rfl) ?_
  refine va_get (D := (dC, dI)) (ci := 9) (v := .ref (a 23)) (C := RX11) (T := TX11) (N := 55) hx hb hts inX11 hown hK hP 0 rfl rfl 23 (Nat.le_of_ble_eq_true rfl) (hts _ mw_1182) (fun _ h9 => h9) rfl dX11_lose_5 ?_
  refine va_alen (v := nI (64 * cl)) hx hb hK hP 2 0 rfl rfl rfl dX11_lose_8 ?_
  have b9_2 : ln < 2147483648 := by omega
  have b9_3 : (64 * cl) < 2147483648 := by omega
  refine lv_icmp_ne (tgt := 134) hx hb dX11_lose_9 rfl (fun c_1 => ?_) (fun c_1 => ?_)
  · have c_1 : ¬ ((ln : Nat) : Int) = ((64 * cl : Nat) : Int) := zc_ne (nI_toInt b9_2) (nI_toInt b9_3) c_1
    refine lv_aload_n hx hb dX11_lose_134 rfl (lv_at hl 0 rfl) ?_
    refine va_get (D := (dC, dI)) (ci := 9) (v := .ref (a 22)) (C := RX11) (T := TX11) (N := 55) hx hb hts inX11 hown hK hP 0 rfl rfl 22 (Nat.le_of_ble_eq_true rfl) (hts _ mw_1181) (fun _ h9 => h9) rfl dX11_lose_135 ?_
    refine lv_aload_n hx hb dX11_lose_138 rfl (lv_at hl 0 rfl) ?_
    refine va_get (D := (dC, dI)) (ci := 9) (v := .int (I0 26)) (C := RX11) (T := TX11) (N := 55) hx hb hts inX11 hown hK hP 0 rfl rfl 26 (Nat.le_of_ble_eq_true rfl) (hts _ mw_1185) (fun _ h9 => h9) rfl dX11_lose_139 ?_
    refine zz_i (v := nI ln) (hln) ?_
    refine lv_iload_n hx hb dX11_lose_142 rfl (lv_at hl 1 rfl) ?_
    have b9_4 : ln < (64 * cl) := by omega
    refine z_iast hx hb hK hP hD hS 1 0 rfl rfl (e := ln) (x := e1) rfl b9_4 b9_3 dX11_lose_143 (fun H locs hP hD hS => ?_)
    obtain ⟨hP, hD⟩ : zPD (dC, dI) classes A [(om k0 a I0 J0), (oa (a 22) cI (64 * cl) (upd la ln e1)), (oa (a 23) cI (64 * cl) lb), (oa (a 24) cI (64 * cl) lc), (oa (a 25) cI (64 * cl) ld)] H := ⟨hP, hD⟩
    refine lv_aload_n hx hb dX11_lose_144 rfl (lv_at hl 0 rfl) ?_
    refine va_get (D := (dC, dI)) (ci := 9) (v := .ref (a 23)) (C := RX11) (T := TX11) (N := 55) hx hb hts inX11 hown hK hP 0 rfl rfl 23 (Nat.le_of_ble_eq_true rfl) (hts _ mw_1182) (fun _ h9 => h9) rfl dX11_lose_145 ?_
    refine lv_aload_n hx hb dX11_lose_148 rfl (lv_at hl 0 rfl) ?_
    refine va_get (D := (dC, dI)) (ci := 9) (v := .int (I0 26)) (C := RX11) (T := TX11) (N := 55) hx hb hts inX11 hown hK hP 0 rfl rfl 26 (Nat.le_of_ble_eq_true rfl) (hts _ mw_1185) (fun _ h9 => h9) rfl dX11_lose_149 ?_
    refine zz_i (v := nI ln) (hln) ?_
    refine lv_iload_n hx hb dX11_lose_152 rfl (lv_at hl 2 rfl) ?_
    refine z_iast hx hb hK hP hD hS 2 0 rfl rfl (e := ln) (x := e2) rfl b9_4 b9_3 dX11_lose_153 (fun H locs hP hD hS => ?_)
    obtain ⟨hP, hD⟩ : zPD (dC, dI) classes A [(om k0 a I0 J0), (oa (a 22) cI (64 * cl) (upd la ln e1)), (oa (a 23) cI (64 * cl) (upd lb ln e2)), (oa (a 24) cI (64 * cl) lc), (oa (a 25) cI (64 * cl) ld)] H := ⟨hP, hD⟩
    refine lv_aload_n hx hb dX11_lose_154 rfl (lv_at hl 0 rfl) ?_
    refine va_get (D := (dC, dI)) (ci := 9) (v := .ref (a 24)) (C := RX11) (T := TX11) (N := 55) hx hb hts inX11 hown hK hP 0 rfl rfl 24 (Nat.le_of_ble_eq_true rfl) (hts _ mw_1183) (fun _ h9 => h9) rfl dX11_lose_155 ?_
    refine lv_aload_n hx hb dX11_lose_158 rfl (lv_at hl 0 rfl) ?_
    refine va_get (D := (dC, dI)) (ci := 9) (v := .int (I0 26)) (C := RX11) (T := TX11) (N := 55) hx hb hts inX11 hown hK hP 0 rfl rfl 26 (Nat.le_of_ble_eq_true rfl) (hts _ mw_1185) (fun _ h9 => h9) rfl dX11_lose_159 ?_
    refine zz_i (v := nI ln) (hln) ?_
    refine lv_iload_n hx hb dX11_lose_162 rfl (lv_at hl 3 rfl) ?_
    refine z_iast hx hb hK hP hD hS 3 0 rfl rfl (e := ln) (x := e3) rfl b9_4 b9_3 dX11_lose_163 (fun H locs hP hD hS => ?_)
    obtain ⟨hP, hD⟩ : zPD (dC, dI) classes A [(om k0 a I0 J0), (oa (a 22) cI (64 * cl) (upd la ln e1)), (oa (a 23) cI (64 * cl) (upd lb ln e2)), (oa (a 24) cI (64 * cl) (upd lc ln e3)), (oa (a 25) cI (64 * cl) ld)] H := ⟨hP, hD⟩
    refine lv_aload_n hx hb dX11_lose_164 rfl (lv_at hl 0 rfl) ?_
    refine va_get (D := (dC, dI)) (ci := 9) (v := .ref (a 25)) (C := RX11) (T := TX11) (N := 55) hx hb hts inX11 hown hK hP 0 rfl rfl 25 (Nat.le_of_ble_eq_true rfl) (hts _ mw_1184) (fun _ h9 => h9) rfl dX11_lose_165 ?_
    refine lv_aload_n hx hb dX11_lose_168 rfl (lv_at hl 0 rfl) ?_
    refine va_get (D := (dC, dI)) (ci := 9) (v := .int (I0 26)) (C := RX11) (T := TX11) (N := 55) hx hb hts inX11 hown hK hP 0 rfl rfl 26 (Nat.le_of_ble_eq_true rfl) (hts _ mw_1185) (fun _ h9 => h9) rfl dX11_lose_169 ?_
    refine zz_i (v := nI ln) (hln) ?_
    refine lv_iload hx hb dX11_lose_172 (lv_at hl 4 rfl) ?_
    refine z_iast hx hb hK hP hD hS 4 0 rfl rfl (e := ln) (x := e4) rfl b9_4 b9_3 dX11_lose_174 (fun H locs hP hD hS => ?_)
    obtain ⟨hP, hD⟩ : zPD (dC, dI) classes A [(om k0 a I0 J0), (oa (a 22) cI (64 * cl) (upd la ln e1)), (oa (a 23) cI (64 * cl) (upd lb ln e2)), (oa (a 24) cI (64 * cl) (upd lc ln e3)), (oa (a 25) cI (64 * cl) (upd ld ln e4))] H := ⟨hP, hD⟩
    refine lv_aload_n hx hb dX11_lose_175 rfl (lv_at hl 0 rfl) ?_
    refine lv_dup hx hb dX11_lose_176 rfl ?_
    refine va_get (D := (dC, dI)) (ci := 9) (v := .int (I0 26)) (C := RX11) (T := TX11) (N := 55) hx hb hts inX11 hown hK hP 0 rfl rfl 26 (Nat.le_of_ble_eq_true rfl) (hts _ mw_1185) (fun _ h9 => h9) rfl dX11_lose_177 ?_
    refine zz_i (v := nI ln) (hln) ?_
    refine lv_iconst (v := 1) hx hb dX11_lose_180 rfl ?_
    refine lv_iadd hx hb dX11_lose_181 ?_
    refine zz_i (v := nI (ln + 1)) (nI_add ln 1) ?_
    refine va_put (D := (dC, dI)) (ci := 9) (v := .int (nI (ln + 1))) (ty := .int) (C := RX11) (T := TX11) (N := 55) hx hb hts inX11 tyX11 tyX11_ok nmX11 hown hK hP hD hS 0 rfl rfl 26 (by decide) (hts _ mw_1185) (fun _ h9 => h9) rfl (by decide +kernel) rfl rfl (Nat.le_of_ble_eq_true rfl) dX11_lose_182 (fun H locs hP hD hS => ?_)
    obtain ⟨hP, hD⟩ : zPD (dC, dI) classes A [(om k0 a (upd I0 26 (nI (ln + 1))) J0), (oa (a 22) cI (64 * cl) (upd la ln e1)), (oa (a 23) cI (64 * cl) (upd lb ln e2)), (oa (a 24) cI (64 * cl) (upd lc ln e3)), (oa (a 25) cI (64 * cl) (upd ld ln e4))] H := ⟨hP, hD⟩
    obtain ⟨hP9, hD9⟩ := zq_sub (wc := [(om k0 a (upd I0 26 (nI (ln + 1))) J0), (oa (a 22) cI (64 * cl) (upd la ln e1)), (oa (a 23) cI (64 * cl) (upd lb ln e2)), (oa (a 24) cI (64 * cl) (upd lc ln e3)), (oa (a 25) cI (64 * cl) (upd ld ln e4))]) hP hD [0, 1, 2, 3, 4] rfl rfl
    refine W.widen (k := 4 * (dl cl ln - cl)) (n := 512 * (dl cl ln - cl)) (by omega) (by omega) ?_
    rw [hQ9]
    exact W.vret hx hb hr (fun t ht hW => ⟨⟨rfl, (a 22), (a 23), (a 24), (a 25), cl, (upd la ln e1), (upd lb ln e2), (upd lc ln e3), (upd ld ln e4), (by first | (rw [hdl, if_neg (by omega)]) | (rw [hdl])), (by exact up_at _ _ _), (by exact up_at _ _ _), (by exact up_at _ _ _), (by exact up_at _ _ _), (by first | exact up_lo (fun j hj => ha1 j (by omega)) (Nat.le_refl _) | exact up_lo (fun j hj => rfl) (Nat.le_refl _)), (by first | exact up_lo (fun j hj => ha2 j (by omega)) (Nat.le_refl _) | exact up_lo (fun j hj => rfl) (Nat.le_refl _)), (by first | exact up_lo (fun j hj => ha3 j (by omega)) (Nat.le_refl _) | exact up_lo (fun j hj => rfl) (Nat.le_refl _)), (by first | exact up_lo (fun j hj => ha4 j (by omega)) (Nat.le_refl _) | exact up_lo (fun j hj => rfl) (Nat.le_refl _)), by rw [ht]; exact hP9, hD9⟩, hS.F ht⟩) hS.2.2 dX11_lose_185
  · have c_1 : ((ln : Nat) : Int) = ((64 * cl : Nat) : Int) := zc_eq (nI_toInt b9_2) (nI_toInt b9_3) c_1
    have hle : ln = 64 * cl := (by omega)
    rw [if_pos hle] at hdl
    refine lv_iconst (v := 2) hx hb dX11_lose_12 rfl ?_
    refine lv_aload_n hx hb dX11_lose_13 rfl (lv_at hl 0 rfl) ?_
    refine va_get (D := (dC, dI)) (ci := 9) (v := .int (I0 26)) (C := RX11) (T := TX11) (N := 55) hx hb hts inX11 hown hK hP 0 rfl rfl 26 (Nat.le_of_ble_eq_true rfl) (hts _ mw_1185) (fun _ h9 => h9) rfl dX11_lose_14 ?_
    refine zz_i (v := nI ln) (hln) ?_
    refine lv_imul hx hb dX11_lose_17 ?_
    refine zz_i (v := nI (2 * ln)) (pk_mul 2 ln) ?_
    refine zz_i (v := nI (64 * (2 * cl))) (zn_eq (by omega)) ?_
    refine lv_istore (lv' := [(5, .int (nI (64 * (2 * cl)))), (0, .ref k0), (1, .int e1), (2, .int e2), (3, .int e3), (4, .int e4)]) hx hb dX11_lose_18 hl (Nat.le_of_ble_eq_true rfl) rfl (fun ls hl => ?_)
    refine lv_iload hx hb dX11_lose_20 (lv_at hl 0 rfl) ?_
    refine zz_newa (atype := .int) (a0 := (64 * (2 * cl), .inl (fun _ => 0))) hx hb (hts _ mw_195) (ty := .int) rfl hK hP hD hS hA (n := nI (64 * (2 * cl))) (N' := 64 * (2 * cl)) (cA := cI) 0 rfl (fun _ => rfl) (nI_pos (by omega)) (nI_clamp (by omega)) (show (64 * (2 * cl)) * 4 ≤ 536870912 by omega) (show 1 ≤ 4 * (dl cl ln - cl) by omega) (show (0 + (64 * (2 * cl))) ≤ 512 * (dl cl ln - cl) by omega) dX11_lose_22 (fun n1 H hP hD hS => ?_)
    obtain ⟨hP, hD⟩ : zPD (dC, dI) classes A [(om k0 a I0 J0), (oa (a 22) cI (64 * cl) la), (oa (a 23) cI (64 * cl) lb), (oa (a 24) cI (64 * cl) lc), (oa (a 25) cI (64 * cl) ld), (oa n1 cI (64 * (2 * cl)) (fun _ => 0))] H := ⟨hP, hD⟩
    refine lv_astore (lv' := [(6, .ref n1), (5, .int (nI (64 * (2 * cl)))), (0, .ref k0), (1, .int e1), (2, .int e2), (3, .int e3), (4, .int e4)]) hx hb dX11_lose_24 hl (Nat.le_of_ble_eq_true rfl) rfl (fun ls hl => ?_)
    refine lv_iload hx hb dX11_lose_26 (lv_at hl 1 rfl) ?_
    refine zz_newa (atype := .int) (a0 := (64 * (2 * cl), .inl (fun _ => 0))) hx hb (hts _ mw_195) (ty := .int) rfl hK hP hD hS hA (n := nI (64 * (2 * cl))) (N' := 64 * (2 * cl)) (cA := cI) 0 rfl (fun _ => rfl) (nI_pos (by omega)) (nI_clamp (by omega)) (show (64 * (2 * cl)) * 4 ≤ 536870912 by omega) (show 2 ≤ 4 * (dl cl ln - cl) by omega) (show ((0 + (64 * (2 * cl))) + (64 * (2 * cl))) ≤ 512 * (dl cl ln - cl) by omega) dX11_lose_28 (fun n2 H hP hD hS => ?_)
    obtain ⟨hP, hD⟩ : zPD (dC, dI) classes A [(om k0 a I0 J0), (oa (a 22) cI (64 * cl) la), (oa (a 23) cI (64 * cl) lb), (oa (a 24) cI (64 * cl) lc), (oa (a 25) cI (64 * cl) ld), (oa n1 cI (64 * (2 * cl)) (fun _ => 0)), (oa n2 cI (64 * (2 * cl)) (fun _ => 0))] H := ⟨hP, hD⟩
    refine lv_astore (lv' := [(7, .ref n2), (6, .ref n1), (5, .int (nI (64 * (2 * cl)))), (0, .ref k0), (1, .int e1), (2, .int e2), (3, .int e3), (4, .int e4)]) hx hb dX11_lose_30 hl (Nat.le_of_ble_eq_true rfl) rfl (fun ls hl => ?_)
    refine lv_iload hx hb dX11_lose_32 (lv_at hl 2 rfl) ?_
    refine zz_newa (atype := .int) (a0 := (64 * (2 * cl), .inl (fun _ => 0))) hx hb (hts _ mw_195) (ty := .int) rfl hK hP hD hS hA (n := nI (64 * (2 * cl))) (N' := 64 * (2 * cl)) (cA := cI) 0 rfl (fun _ => rfl) (nI_pos (by omega)) (nI_clamp (by omega)) (show (64 * (2 * cl)) * 4 ≤ 536870912 by omega) (show 3 ≤ 4 * (dl cl ln - cl) by omega) (show (((0 + (64 * (2 * cl))) + (64 * (2 * cl))) + (64 * (2 * cl))) ≤ 512 * (dl cl ln - cl) by omega) dX11_lose_34 (fun n3 H hP hD hS => ?_)
    obtain ⟨hP, hD⟩ : zPD (dC, dI) classes A [(om k0 a I0 J0), (oa (a 22) cI (64 * cl) la), (oa (a 23) cI (64 * cl) lb), (oa (a 24) cI (64 * cl) lc), (oa (a 25) cI (64 * cl) ld), (oa n1 cI (64 * (2 * cl)) (fun _ => 0)), (oa n2 cI (64 * (2 * cl)) (fun _ => 0)), (oa n3 cI (64 * (2 * cl)) (fun _ => 0))] H := ⟨hP, hD⟩
    refine lv_astore (lv' := [(8, .ref n3), (7, .ref n2), (6, .ref n1), (5, .int (nI (64 * (2 * cl)))), (0, .ref k0), (1, .int e1), (2, .int e2), (3, .int e3), (4, .int e4)]) hx hb dX11_lose_36 hl (Nat.le_of_ble_eq_true rfl) rfl (fun ls hl => ?_)
    refine lv_iload hx hb dX11_lose_38 (lv_at hl 3 rfl) ?_
    refine zz_newa (atype := .int) (a0 := (64 * (2 * cl), .inl (fun _ => 0))) hx hb (hts _ mw_195) (ty := .int) rfl hK hP hD hS hA (n := nI (64 * (2 * cl))) (N' := 64 * (2 * cl)) (cA := cI) 0 rfl (fun _ => rfl) (nI_pos (by omega)) (nI_clamp (by omega)) (show (64 * (2 * cl)) * 4 ≤ 536870912 by omega) (show 4 ≤ 4 * (dl cl ln - cl) by omega) (show ((((0 + (64 * (2 * cl))) + (64 * (2 * cl))) + (64 * (2 * cl))) + (64 * (2 * cl))) ≤ 512 * (dl cl ln - cl) by omega) dX11_lose_40 (fun n4 H hP hD hS => ?_)
    obtain ⟨hP, hD⟩ : zPD (dC, dI) classes A [(om k0 a I0 J0), (oa (a 22) cI (64 * cl) la), (oa (a 23) cI (64 * cl) lb), (oa (a 24) cI (64 * cl) lc), (oa (a 25) cI (64 * cl) ld), (oa n1 cI (64 * (2 * cl)) (fun _ => 0)), (oa n2 cI (64 * (2 * cl)) (fun _ => 0)), (oa n3 cI (64 * (2 * cl)) (fun _ => 0)), (oa n4 cI (64 * (2 * cl)) (fun _ => 0))] H := ⟨hP, hD⟩
    refine lv_astore (lv' := [(9, .ref n4), (8, .ref n3), (7, .ref n2), (6, .ref n1), (5, .int (nI (64 * (2 * cl)))), (0, .ref k0), (1, .int e1), (2, .int e2), (3, .int e3), (4, .int e4)]) hx hb dX11_lose_42 hl (Nat.le_of_ble_eq_true rfl) rfl (fun ls hl => ?_)
    refine lv_iconst (v := 0) hx hb dX11_lose_44 rfl ?_
    refine lv_istore (lv' := [(10, .int 0), (9, .ref n4), (8, .ref n3), (7, .ref n2), (6, .ref n1), (5, .int (nI (64 * (2 * cl)))), (0, .ref k0), (1, .int e1), (2, .int e2), (3, .int e3), (4, .int e4)]) hx hb dX11_lose_45 hl (Nat.le_of_ble_eq_true rfl) rfl (fun ls hl => ?_)
    have hl_47 : ∀ (n9 : Nat) (k : Nat) (f1 : Nat → Int32) (f2 : Nat → Int32) (f3 : Nat → Int32) (f4 : Nat → Int32) (H : Heap) (locs : List Loc) (ls : Array Slot), ln - k < n9 → (k ≤ ln) → (∀ j, j < k → f1 j = la j) → (∀ j, j < k → f2 j = lb j) → (∀ j, j < k → f3 j = lc j) → (∀ j, j < k → f4 j = ld j) → va_P (dC, dI) classes [(om k0 a I0 J0), (oa (a 22) cI (64 * cl) la), (oa (a 23) cI (64 * cl) lb), (oa (a 24) cI (64 * cl) lc), (oa (a 25) cI (64 * cl) ld), (oa n1 cI (64 * (2 * cl)) f1), (oa n2 cI (64 * (2 * cl)) f2), (oa n3 cI (64 * (2 * cl)) f3), (oa n4 cI (64 * (2 * cl)) f4)] H → va_D A [(om k0 a I0 J0), (oa (a 22) cI (64 * cl) la), (oa (a 23) cI (64 * cl) lb), (oa (a 24) cI (64 * cl) lc), (oa (a 25) cI (64 * cl) ld), (oa n1 cI (64 * (2 * cl)) f1), (oa n2 cI (64 * (2 * cl)) f2), (oa n3 cI (64 * (2 * cl)) f3), (oa n4 cI (64 * (2 * cl)) f4)] → va_S A s.heap H locs → lv_has ls 11 [(10, .int (nI k)), (9, .ref n4), (8, .ref n3), (7, .ref n2), (6, .ref n1), (5, .int (nI (64 * (2 * cl)))), (0, .ref k0), (1, .int e1), (2, .int e2), (3, .int e3), (4, .int e4)] → W p l e ((headSpec (.code yX11_lose cX11_lose 11 none :: ws0) ({ frames := 0, cells := 4 * (dl cl ln - cl), slots := 512 * (dl cl ln - cl), locals := 0 } : Room)).room) s m ([.ref k0, .int e1, .int e2, .int e3, .int e4] : List Value).toArray below meth c H locs 4 ((((0 + (64 * (2 * cl))) + (64 * (2 * cl))) + (64 * (2 * cl))) + (64 * (2 * cl))) Q9 (F0 m 47 ls []) := by
      intro n9
      induction n9 with
      | zero => intro k f1 f2 f3 f4 H locs ls hm; exact absurd hm (Nat.not_lt_zero _)
      | succ n9 ih_47 =>
        intro k f1 f2 f3 f4 H locs ls hm hk ha1 ha2 ha3 ha4 hP hD hS hl
        refine lv_iload hx hb dX11_lose_47 (lv_at hl 0 rfl) ?_
        refine lv_aload_n hx hb dX11_lose_49 rfl (lv_at hl 6 rfl) ?_
        refine va_get (D := (dC, dI)) (ci := 9) (v := .int (I0 26)) (C := RX11) (T := TX11) (N := 55) hx hb hts inX11 hown hK hP 0 rfl rfl 26 (Nat.le_of_ble_eq_true rfl) (hts _ mw_1185) (fun _ h9 => h9) rfl dX11_lose_50 ?_
        refine zz_i (v := nI ln) (hln) ?_
        have b9_6 : k < 2147483648 := by omega
        refine lv_icmp_ge (tgt := 110) hx hb dX11_lose_53 rfl (fun c_5 => ?_) (fun c_5 => ?_)
        · have c_5 : ((ln : Nat) : Int) ≤ ((k : Nat) : Int) := zc_le (nI_toInt b9_2) (nI_toInt b9_6) c_5
          refine lv_aload_n hx hb dX11_lose_110 rfl (lv_at hl 6 rfl) ?_
          refine lv_aload hx hb dX11_lose_111 (lv_at hl 4 rfl) ?_
          refine va_put (D := (dC, dI)) (ci := 9) (v := .ref n1) (ty := .array .int) (C := RX11) (T := TX11) (N := 55) hx hb hts inX11 tyX11 tyX11_ok nmX11 hown hK hP hD hS 0 rfl rfl 22 (by decide) (hts _ mw_1181) (fun _ h9 => h9) rfl (by decide +kernel) rfl rfl (Nat.le_of_ble_eq_true rfl) dX11_lose_113 (fun H locs hP hD hS => ?_)
          obtain ⟨hP, hD⟩ : zPD (dC, dI) classes A [(om k0 (va_up a 22 n1) I0 J0), (oa (a 22) cI (64 * cl) la), (oa (a 23) cI (64 * cl) lb), (oa (a 24) cI (64 * cl) lc), (oa (a 25) cI (64 * cl) ld), (oa n1 cI (64 * (2 * cl)) f1), (oa n2 cI (64 * (2 * cl)) f2), (oa n3 cI (64 * (2 * cl)) f3), (oa n4 cI (64 * (2 * cl)) f4)] H := ⟨hP, hD⟩
          refine lv_aload_n hx hb dX11_lose_116 rfl (lv_at hl 6 rfl) ?_
          refine lv_aload hx hb dX11_lose_117 (lv_at hl 3 rfl) ?_
          refine va_put (D := (dC, dI)) (ci := 9) (v := .ref n2) (ty := .array .int) (C := RX11) (T := TX11) (N := 55) hx hb hts inX11 tyX11 tyX11_ok nmX11 hown hK hP hD hS 0 rfl rfl 23 (by decide) (hts _ mw_1182) (fun _ h9 => h9) rfl (by decide +kernel) rfl rfl (Nat.le_of_ble_eq_true rfl) dX11_lose_119 (fun H locs hP hD hS => ?_)
          obtain ⟨hP, hD⟩ : zPD (dC, dI) classes A [(om k0 (va_up (va_up a 22 n1) 23 n2) I0 J0), (oa (a 22) cI (64 * cl) la), (oa (a 23) cI (64 * cl) lb), (oa (a 24) cI (64 * cl) lc), (oa (a 25) cI (64 * cl) ld), (oa n1 cI (64 * (2 * cl)) f1), (oa n2 cI (64 * (2 * cl)) f2), (oa n3 cI (64 * (2 * cl)) f3), (oa n4 cI (64 * (2 * cl)) f4)] H := ⟨hP, hD⟩
          refine lv_aload_n hx hb dX11_lose_122 rfl (lv_at hl 6 rfl) ?_
          refine lv_aload hx hb dX11_lose_123 (lv_at hl 2 rfl) ?_
          refine va_put (D := (dC, dI)) (ci := 9) (v := .ref n3) (ty := .array .int) (C := RX11) (T := TX11) (N := 55) hx hb hts inX11 tyX11 tyX11_ok nmX11 hown hK hP hD hS 0 rfl rfl 24 (by decide) (hts _ mw_1183) (fun _ h9 => h9) rfl (by decide +kernel) rfl rfl (Nat.le_of_ble_eq_true rfl) dX11_lose_125 (fun H locs hP hD hS => ?_)
          obtain ⟨hP, hD⟩ : zPD (dC, dI) classes A [(om k0 (va_up (va_up (va_up a 22 n1) 23 n2) 24 n3) I0 J0), (oa (a 22) cI (64 * cl) la), (oa (a 23) cI (64 * cl) lb), (oa (a 24) cI (64 * cl) lc), (oa (a 25) cI (64 * cl) ld), (oa n1 cI (64 * (2 * cl)) f1), (oa n2 cI (64 * (2 * cl)) f2), (oa n3 cI (64 * (2 * cl)) f3), (oa n4 cI (64 * (2 * cl)) f4)] H := ⟨hP, hD⟩
          refine lv_aload_n hx hb dX11_lose_128 rfl (lv_at hl 6 rfl) ?_
          refine lv_aload hx hb dX11_lose_129 (lv_at hl 1 rfl) ?_
          refine va_put (D := (dC, dI)) (ci := 9) (v := .ref n4) (ty := .array .int) (C := RX11) (T := TX11) (N := 55) hx hb hts inX11 tyX11 tyX11_ok nmX11 hown hK hP hD hS 0 rfl rfl 25 (by decide) (hts _ mw_1184) (fun _ h9 => h9) rfl (by decide +kernel) rfl rfl (Nat.le_of_ble_eq_true rfl) dX11_lose_131 (fun H locs hP hD hS => ?_)
          obtain ⟨hP, hD⟩ : zPD (dC, dI) classes A [(om k0 (va_up (va_up (va_up (va_up a 22 n1) 23 n2) 24 n3) 25 n4) I0 J0), (oa (a 22) cI (64 * cl) la), (oa (a 23) cI (64 * cl) lb), (oa (a 24) cI (64 * cl) lc), (oa (a 25) cI (64 * cl) ld), (oa n1 cI (64 * (2 * cl)) f1), (oa n2 cI (64 * (2 * cl)) f2), (oa n3 cI (64 * (2 * cl)) f3), (oa n4 cI (64 * (2 * cl)) f4)] H := ⟨hP, hD⟩
          refine lv_aload_n hx hb dX11_lose_134 rfl (lv_at hl 6 rfl) ?_
          refine va_get (D := (dC, dI)) (ci := 9) (v := .ref n1) (C := RX11) (T := TX11) (N := 55) hx hb hts inX11 hown hK hP 0 rfl rfl 22 (Nat.le_of_ble_eq_true rfl) (hts _ mw_1181) (fun _ h9 => h9) rfl dX11_lose_135 ?_
          refine lv_aload_n hx hb dX11_lose_138 rfl (lv_at hl 6 rfl) ?_
          refine va_get (D := (dC, dI)) (ci := 9) (v := .int (I0 26)) (C := RX11) (T := TX11) (N := 55) hx hb hts inX11 hown hK hP 0 rfl rfl 26 (Nat.le_of_ble_eq_true rfl) (hts _ mw_1185) (fun _ h9 => h9) rfl dX11_lose_139 ?_
          refine zz_i (v := nI ln) (hln) ?_
          refine lv_iload_n hx hb dX11_lose_142 rfl (lv_at hl 7 rfl) ?_
          have b9_7 : ln < (64 * (2 * cl)) := by omega
          have b9_8 : (64 * (2 * cl)) < 2147483648 := by omega
          refine z_iast hx hb hK hP hD hS 5 0 rfl rfl (e := ln) (x := e1) rfl b9_7 b9_8 dX11_lose_143 (fun H locs hP hD hS => ?_)
          obtain ⟨hP, hD⟩ : zPD (dC, dI) classes A [(om k0 (va_up (va_up (va_up (va_up a 22 n1) 23 n2) 24 n3) 25 n4) I0 J0), (oa (a 22) cI (64 * cl) la), (oa (a 23) cI (64 * cl) lb), (oa (a 24) cI (64 * cl) lc), (oa (a 25) cI (64 * cl) ld), (oa n1 cI (64 * (2 * cl)) (upd f1 ln e1)), (oa n2 cI (64 * (2 * cl)) f2), (oa n3 cI (64 * (2 * cl)) f3), (oa n4 cI (64 * (2 * cl)) f4)] H := ⟨hP, hD⟩
          refine lv_aload_n hx hb dX11_lose_144 rfl (lv_at hl 6 rfl) ?_
          refine va_get (D := (dC, dI)) (ci := 9) (v := .ref n2) (C := RX11) (T := TX11) (N := 55) hx hb hts inX11 hown hK hP 0 rfl rfl 23 (Nat.le_of_ble_eq_true rfl) (hts _ mw_1182) (fun _ h9 => h9) rfl dX11_lose_145 ?_
          refine lv_aload_n hx hb dX11_lose_148 rfl (lv_at hl 6 rfl) ?_
          refine va_get (D := (dC, dI)) (ci := 9) (v := .int (I0 26)) (C := RX11) (T := TX11) (N := 55) hx hb hts inX11 hown hK hP 0 rfl rfl 26 (Nat.le_of_ble_eq_true rfl) (hts _ mw_1185) (fun _ h9 => h9) rfl dX11_lose_149 ?_
          refine zz_i (v := nI ln) (hln) ?_
          refine lv_iload_n hx hb dX11_lose_152 rfl (lv_at hl 8 rfl) ?_
          refine z_iast hx hb hK hP hD hS 6 0 rfl rfl (e := ln) (x := e2) rfl b9_7 b9_8 dX11_lose_153 (fun H locs hP hD hS => ?_)
          obtain ⟨hP, hD⟩ : zPD (dC, dI) classes A [(om k0 (va_up (va_up (va_up (va_up a 22 n1) 23 n2) 24 n3) 25 n4) I0 J0), (oa (a 22) cI (64 * cl) la), (oa (a 23) cI (64 * cl) lb), (oa (a 24) cI (64 * cl) lc), (oa (a 25) cI (64 * cl) ld), (oa n1 cI (64 * (2 * cl)) (upd f1 ln e1)), (oa n2 cI (64 * (2 * cl)) (upd f2 ln e2)), (oa n3 cI (64 * (2 * cl)) f3), (oa n4 cI (64 * (2 * cl)) f4)] H := ⟨hP, hD⟩
          refine lv_aload_n hx hb dX11_lose_154 rfl (lv_at hl 6 rfl) ?_
          refine va_get (D := (dC, dI)) (ci := 9) (v := .ref n3) (C := RX11) (T := TX11) (N := 55) hx hb hts inX11 hown hK hP 0 rfl rfl 24 (Nat.le_of_ble_eq_true rfl) (hts _ mw_1183) (fun _ h9 => h9) rfl dX11_lose_155 ?_
          refine lv_aload_n hx hb dX11_lose_158 rfl (lv_at hl 6 rfl) ?_
          refine va_get (D := (dC, dI)) (ci := 9) (v := .int (I0 26)) (C := RX11) (T := TX11) (N := 55) hx hb hts inX11 hown hK hP 0 rfl rfl 26 (Nat.le_of_ble_eq_true rfl) (hts _ mw_1185) (fun _ h9 => h9) rfl dX11_lose_159 ?_
          refine zz_i (v := nI ln) (hln) ?_
          refine lv_iload_n hx hb dX11_lose_162 rfl (lv_at hl 9 rfl) ?_
          refine z_iast hx hb hK hP hD hS 7 0 rfl rfl (e := ln) (x := e3) rfl b9_7 b9_8 dX11_lose_163 (fun H locs hP hD hS => ?_)
          obtain ⟨hP, hD⟩ : zPD (dC, dI) classes A [(om k0 (va_up (va_up (va_up (va_up a 22 n1) 23 n2) 24 n3) 25 n4) I0 J0), (oa (a 22) cI (64 * cl) la), (oa (a 23) cI (64 * cl) lb), (oa (a 24) cI (64 * cl) lc), (oa (a 25) cI (64 * cl) ld), (oa n1 cI (64 * (2 * cl)) (upd f1 ln e1)), (oa n2 cI (64 * (2 * cl)) (upd f2 ln e2)), (oa n3 cI (64 * (2 * cl)) (upd f3 ln e3)), (oa n4 cI (64 * (2 * cl)) f4)] H := ⟨hP, hD⟩
          refine lv_aload_n hx hb dX11_lose_164 rfl (lv_at hl 6 rfl) ?_
          refine va_get (D := (dC, dI)) (ci := 9) (v := .ref n4) (C := RX11) (T := TX11) (N := 55) hx hb hts inX11 hown hK hP 0 rfl rfl 25 (Nat.le_of_ble_eq_true rfl) (hts _ mw_1184) (fun _ h9 => h9) rfl dX11_lose_165 ?_
          refine lv_aload_n hx hb dX11_lose_168 rfl (lv_at hl 6 rfl) ?_
          refine va_get (D := (dC, dI)) (ci := 9) (v := .int (I0 26)) (C := RX11) (T := TX11) (N := 55) hx hb hts inX11 hown hK hP 0 rfl rfl 26 (Nat.le_of_ble_eq_true rfl) (hts _ mw_1185) (fun _ h9 => h9) rfl dX11_lose_169 ?_
          refine zz_i (v := nI ln) (hln) ?_
          refine lv_iload hx hb dX11_lose_172 (lv_at hl 10 rfl) ?_
          refine z_iast hx hb hK hP hD hS 8 0 rfl rfl (e := ln) (x := e4) rfl b9_7 b9_8 dX11_lose_174 (fun H locs hP hD hS => ?_)
          obtain ⟨hP, hD⟩ : zPD (dC, dI) classes A [(om k0 (va_up (va_up (va_up (va_up a 22 n1) 23 n2) 24 n3) 25 n4) I0 J0), (oa (a 22) cI (64 * cl) la), (oa (a 23) cI (64 * cl) lb), (oa (a 24) cI (64 * cl) lc), (oa (a 25) cI (64 * cl) ld), (oa n1 cI (64 * (2 * cl)) (upd f1 ln e1)), (oa n2 cI (64 * (2 * cl)) (upd f2 ln e2)), (oa n3 cI (64 * (2 * cl)) (upd f3 ln e3)), (oa n4 cI (64 * (2 * cl)) (upd f4 ln e4))] H := ⟨hP, hD⟩
          refine lv_aload_n hx hb dX11_lose_175 rfl (lv_at hl 6 rfl) ?_
          refine lv_dup hx hb dX11_lose_176 rfl ?_
          refine va_get (D := (dC, dI)) (ci := 9) (v := .int (I0 26)) (C := RX11) (T := TX11) (N := 55) hx hb hts inX11 hown hK hP 0 rfl rfl 26 (Nat.le_of_ble_eq_true rfl) (hts _ mw_1185) (fun _ h9 => h9) rfl dX11_lose_177 ?_
          refine zz_i (v := nI ln) (hln) ?_
          refine lv_iconst (v := 1) hx hb dX11_lose_180 rfl ?_
          refine lv_iadd hx hb dX11_lose_181 ?_
          refine zz_i (v := nI (ln + 1)) (nI_add ln 1) ?_
          refine va_put (D := (dC, dI)) (ci := 9) (v := .int (nI (ln + 1))) (ty := .int) (C := RX11) (T := TX11) (N := 55) hx hb hts inX11 tyX11 tyX11_ok nmX11 hown hK hP hD hS 0 rfl rfl 26 (by decide) (hts _ mw_1185) (fun _ h9 => h9) rfl (by decide +kernel) rfl rfl (Nat.le_of_ble_eq_true rfl) dX11_lose_182 (fun H locs hP hD hS => ?_)
          obtain ⟨hP, hD⟩ : zPD (dC, dI) classes A [(om k0 (va_up (va_up (va_up (va_up a 22 n1) 23 n2) 24 n3) 25 n4) (upd I0 26 (nI (ln + 1))) J0), (oa (a 22) cI (64 * cl) la), (oa (a 23) cI (64 * cl) lb), (oa (a 24) cI (64 * cl) lc), (oa (a 25) cI (64 * cl) ld), (oa n1 cI (64 * (2 * cl)) (upd f1 ln e1)), (oa n2 cI (64 * (2 * cl)) (upd f2 ln e2)), (oa n3 cI (64 * (2 * cl)) (upd f3 ln e3)), (oa n4 cI (64 * (2 * cl)) (upd f4 ln e4))] H := ⟨hP, hD⟩
          obtain ⟨hP9, hD9⟩ := zq_sub (wc := [(om k0 (va_up (va_up (va_up (va_up a 22 n1) 23 n2) 24 n3) 25 n4) (upd I0 26 (nI (ln + 1))) J0), (oa n1 cI (64 * (2 * cl)) (upd f1 ln e1)), (oa n2 cI (64 * (2 * cl)) (upd f2 ln e2)), (oa n3 cI (64 * (2 * cl)) (upd f3 ln e3)), (oa n4 cI (64 * (2 * cl)) (upd f4 ln e4))]) hP hD [0, 5, 6, 7, 8] rfl rfl
          refine W.widen (k := 4 * (dl cl ln - cl)) (n := 512 * (dl cl ln - cl)) (by omega) (by omega) ?_
          rw [hQ9]
          exact W.vret hx hb hr (fun t ht hW => ⟨⟨rfl, n1, n2, n3, n4, (2 * cl), (upd f1 ln e1), (upd f2 ln e2), (upd f3 ln e3), (upd f4 ln e4), (by first | (rw [hdl, if_neg (by omega)]) | (rw [hdl])), (by exact up_at _ _ _), (by exact up_at _ _ _), (by exact up_at _ _ _), (by exact up_at _ _ _), (by first | exact up_lo (fun j hj => ha1 j (by omega)) (Nat.le_refl _) | exact up_lo (fun j hj => rfl) (Nat.le_refl _)), (by first | exact up_lo (fun j hj => ha2 j (by omega)) (Nat.le_refl _) | exact up_lo (fun j hj => rfl) (Nat.le_refl _)), (by first | exact up_lo (fun j hj => ha3 j (by omega)) (Nat.le_refl _) | exact up_lo (fun j hj => rfl) (Nat.le_refl _)), (by first | exact up_lo (fun j hj => ha4 j (by omega)) (Nat.le_refl _) | exact up_lo (fun j hj => rfl) (Nat.le_refl _)), by rw [ht]; exact hP9, hD9⟩, hS.F ht⟩) hS.2.2 dX11_lose_185
        · have c_5 : ((k : Nat) : Int) < ((ln : Nat) : Int) := zc_nle (nI_toInt b9_2) (nI_toInt b9_6) c_5
          refine lv_aload hx hb dX11_lose_56 (lv_at hl 4 rfl) ?_
          refine lv_iload hx hb dX11_lose_58 (lv_at hl 0 rfl) ?_
          refine lv_aload_n hx hb dX11_lose_60 rfl (lv_at hl 6 rfl) ?_
          refine va_get (D := (dC, dI)) (ci := 9) (v := .ref (a 22)) (C := RX11) (T := TX11) (N := 55) hx hb hts inX11 hown hK hP 0 rfl rfl 22 (Nat.le_of_ble_eq_true rfl) (hts _ mw_1181) (fun _ h9 => h9) rfl dX11_lose_61 ?_
          refine lv_iload hx hb dX11_lose_64 (lv_at hl 0 rfl) ?_
          have b9_9 : k < (64 * cl) := by omega
          refine z_iald hx hb hK hP 1 0 rfl rfl (e := k) rfl b9_9 b9_3 dX11_lose_66 ?_
          have b9_10 : k < (64 * (2 * cl)) := by omega
          have b9_11 : (64 * (2 * cl)) < 2147483648 := by omega
          refine z_iast hx hb hK hP hD hS 5 0 rfl rfl (e := k) (x := la k) rfl b9_10 b9_11 dX11_lose_67 (fun H locs hP hD hS => ?_)
          obtain ⟨hP, hD⟩ : zPD (dC, dI) classes A [(om k0 a I0 J0), (oa (a 22) cI (64 * cl) la), (oa (a 23) cI (64 * cl) lb), (oa (a 24) cI (64 * cl) lc), (oa (a 25) cI (64 * cl) ld), (oa n1 cI (64 * (2 * cl)) (upd f1 k (la k))), (oa n2 cI (64 * (2 * cl)) f2), (oa n3 cI (64 * (2 * cl)) f3), (oa n4 cI (64 * (2 * cl)) f4)] H := ⟨hP, hD⟩
          refine lv_aload hx hb dX11_lose_68 (lv_at hl 3 rfl) ?_
          refine lv_iload hx hb dX11_lose_70 (lv_at hl 0 rfl) ?_
          refine lv_aload_n hx hb dX11_lose_72 rfl (lv_at hl 6 rfl) ?_
          refine va_get (D := (dC, dI)) (ci := 9) (v := .ref (a 23)) (C := RX11) (T := TX11) (N := 55) hx hb hts inX11 hown hK hP 0 rfl rfl 23 (Nat.le_of_ble_eq_true rfl) (hts _ mw_1182) (fun _ h9 => h9) rfl dX11_lose_73 ?_
          refine lv_iload hx hb dX11_lose_76 (lv_at hl 0 rfl) ?_
          refine z_iald hx hb hK hP 2 0 rfl rfl (e := k) rfl b9_9 b9_3 dX11_lose_78 ?_
          refine z_iast hx hb hK hP hD hS 6 0 rfl rfl (e := k) (x := lb k) rfl b9_10 b9_11 dX11_lose_79 (fun H locs hP hD hS => ?_)
          obtain ⟨hP, hD⟩ : zPD (dC, dI) classes A [(om k0 a I0 J0), (oa (a 22) cI (64 * cl) la), (oa (a 23) cI (64 * cl) lb), (oa (a 24) cI (64 * cl) lc), (oa (a 25) cI (64 * cl) ld), (oa n1 cI (64 * (2 * cl)) (upd f1 k (la k))), (oa n2 cI (64 * (2 * cl)) (upd f2 k (lb k))), (oa n3 cI (64 * (2 * cl)) f3), (oa n4 cI (64 * (2 * cl)) f4)] H := ⟨hP, hD⟩
          refine lv_aload hx hb dX11_lose_80 (lv_at hl 2 rfl) ?_
          refine lv_iload hx hb dX11_lose_82 (lv_at hl 0 rfl) ?_
          refine lv_aload_n hx hb dX11_lose_84 rfl (lv_at hl 6 rfl) ?_
          refine va_get (D := (dC, dI)) (ci := 9) (v := .ref (a 24)) (C := RX11) (T := TX11) (N := 55) hx hb hts inX11 hown hK hP 0 rfl rfl 24 (Nat.le_of_ble_eq_true rfl) (hts _ mw_1183) (fun _ h9 => h9) rfl dX11_lose_85 ?_
          refine lv_iload hx hb dX11_lose_88 (lv_at hl 0 rfl) ?_
          refine z_iald hx hb hK hP 3 0 rfl rfl (e := k) rfl b9_9 b9_3 dX11_lose_90 ?_
          refine z_iast hx hb hK hP hD hS 7 0 rfl rfl (e := k) (x := lc k) rfl b9_10 b9_11 dX11_lose_91 (fun H locs hP hD hS => ?_)
          obtain ⟨hP, hD⟩ : zPD (dC, dI) classes A [(om k0 a I0 J0), (oa (a 22) cI (64 * cl) la), (oa (a 23) cI (64 * cl) lb), (oa (a 24) cI (64 * cl) lc), (oa (a 25) cI (64 * cl) ld), (oa n1 cI (64 * (2 * cl)) (upd f1 k (la k))), (oa n2 cI (64 * (2 * cl)) (upd f2 k (lb k))), (oa n3 cI (64 * (2 * cl)) (upd f3 k (lc k))), (oa n4 cI (64 * (2 * cl)) f4)] H := ⟨hP, hD⟩
          refine lv_aload hx hb dX11_lose_92 (lv_at hl 1 rfl) ?_
          refine lv_iload hx hb dX11_lose_94 (lv_at hl 0 rfl) ?_
          refine lv_aload_n hx hb dX11_lose_96 rfl (lv_at hl 6 rfl) ?_
          refine va_get (D := (dC, dI)) (ci := 9) (v := .ref (a 25)) (C := RX11) (T := TX11) (N := 55) hx hb hts inX11 hown hK hP 0 rfl rfl 25 (Nat.le_of_ble_eq_true rfl) (hts _ mw_1184) (fun _ h9 => h9) rfl dX11_lose_97 ?_
          refine lv_iload hx hb dX11_lose_100 (lv_at hl 0 rfl) ?_
          refine z_iald hx hb hK hP 4 0 rfl rfl (e := k) rfl b9_9 b9_3 dX11_lose_102 ?_
          refine z_iast hx hb hK hP hD hS 8 0 rfl rfl (e := k) (x := ld k) rfl b9_10 b9_11 dX11_lose_103 (fun H locs hP hD hS => ?_)
          obtain ⟨hP, hD⟩ : zPD (dC, dI) classes A [(om k0 a I0 J0), (oa (a 22) cI (64 * cl) la), (oa (a 23) cI (64 * cl) lb), (oa (a 24) cI (64 * cl) lc), (oa (a 25) cI (64 * cl) ld), (oa n1 cI (64 * (2 * cl)) (upd f1 k (la k))), (oa n2 cI (64 * (2 * cl)) (upd f2 k (lb k))), (oa n3 cI (64 * (2 * cl)) (upd f3 k (lc k))), (oa n4 cI (64 * (2 * cl)) (upd f4 k (ld k)))] H := ⟨hP, hD⟩
          refine lv_iinc (v := nI (k + 1)) (lv' := [(10, .int (nI (k + 1))), (9, .ref n4), (8, .ref n3), (7, .ref n2), (6, .ref n1), (5, .int (nI (64 * (2 * cl)))), (0, .ref k0), (1, .int e1), (2, .int e2), (3, .int e3), (4, .int e4)]) hx hb dX11_lose_104 hl (k := 0) rfl (nI_add k 1) (Nat.le_of_ble_eq_true rfl) rfl (fun ls hl => ?_)
          refine lv_goto (tgt := 47) hx hb dX11_lose_107 rfl ?_
          exact ih_47 (k + 1) (upd f1 k (la k)) (upd f2 k (lb k)) (upd f3 k (lc k)) (upd f4 k (ld k)) H locs ls (by first | with_reducible assumption | omega) (by first | with_reducible assumption | omega) (up_sn ha1 rfl) (up_sn ha2 rfl) (up_sn ha3 rfl) (up_sn ha4 rfl) hP hD hS (lv_sub hl [0, 1, 2, 3, 4, 5, 6, 7, 8, 9, 10] rfl)
    exact hl_47 _ 0 (fun _ => 0) (fun _ => 0) (fun _ => 0) (fun _ => 0) H [] ls (Nat.lt_succ_self _) (by first | with_reducible assumption | omega) (by intro j hj; omega) (by intro j hj; omega) (by intro j hj; omega) (by intro j hj; omega) hP hD hS (lv_sub hl [0, 1, 2, 3, 4, 5, 6, 7, 8, 9, 10] rfl)
set_option maxHeartbeats 4000000 in
set_option maxRecDepth 100000 in
theorem k_M_squeeze (l : Launch) (dC : Nat → ClassId) (dI : Nat → Nat → Nat) (cI cZ cF : ClassId) (sz : Nat) (k0 : Nat) (a : Nat → Nat) (I0 : Nat → Int32) (J0 : Nat → Int64) (fr : Nat) (ln : Nat) (cl : Nat) (la : Nat → Int32) (lb : Nat → Int32) (lc : Nat → Int32) (ld : Nat → Int32) (hln : I0 26 = nI ln) (hlc : ln ≤ 64 * cl) (hcl1 : 1 ≤ cl) (hclm : cl ≤ 1000000) (hfr : fr ≤ 64000000) : Met l yX11_squeeze (.code yX11_squeeze cX11_squeeze 4 none :: ws0) ({ frames := 0, cells := 0, slots := 0, locals := 0 } : Room) (va_Pc [.ref k0, .int (nI fr)] (zPre (dC, dI) classes (zTy cI cZ cF) [(om k0 a I0 J0), (oa (a 22) cI (64 * cl) la), (oa (a 23) cI (64 * cl) lb), (oa (a 24) cI (64 * cl) lc), (oa (a 25) cI (64 * cl) ld)] sz zXN)) (zQ none (fun t => ∃ (t9 : Nat), ∃ (la1 : Nat → Int32), ∃ (lb1 : Nat → Int32), ∃ (lc1 : Nat → Int32), ∃ (ld1 : Nat → Int32), (t9 ≤ ln) ∧ (∀ j, j < t9 → ∃ i, i < ln ∧ lb1 j = lb i ∧ lc1 j = lc i) ∧ va_P (dC, dI) classes [(om k0 a (upd I0 26 (nI t9)) J0), (oa (a 22) cI (64 * cl) la1), (oa (a 23) cI (64 * cl) lb1), (oa (a 24) cI (64 * cl) lc1), (oa (a 25) cI (64 * cl) ld1)] t.heap ∧ va_D (va_A [(om k0 a I0 J0), (oa (a 22) cI (64 * cl) la), (oa (a 23) cI (64 * cl) lb), (oa (a 24) cI (64 * cl) lc), (oa (a 25) cI (64 * cl) ld)] sz) [(om k0 a (upd I0 26 (nI t9)) J0), (oa (a 22) cI (64 * cl) la1), (oa (a 23) cI (64 * cl) lb1), (oa (a 24) cI (64 * cl) lc1), (oa (a 25) cI (64 * cl) ld1)]) (va_A [(om k0 a I0 J0), (oa (a 22) cI (64 * cl) la), (oa (a 23) cI (64 * cl) lb), (oa (a 24) cI (64 * cl) lc), (oa (a 25) cI (64 * cl) ld)] sz)) 0 0 (va_A [(om k0 a I0 J0), (oa (a 22) cI (64 * cl) la), (oa (a 23) cI (64 * cl) lb), (oa (a 24) cI (64 * cl) lc), (oa (a 25) cI (64 * cl) ld)] sz) := by
  refine Met.ofW (cc := cX11_squeeze) (maxL := 4) (ret := none) rfl rfl ?_
  intro p e s m args below meth c s₁ B hml hv
  obtain ⟨rfl, hsz, hP, hK, hD0, hXN⟩ := hv
  have hx := B.exec
  have hb := B.bytes
  have hr := B.returns
  have hts0 := atoms_spec (ws := .code yX11_squeeze cX11_squeeze 4 none :: ws0) B.pre
  have hts : ∀ w9 ∈ ws0, w9.before ([.ref k0, .int (nI fr)] : List Value).toArray s = true := fun w9 h => hts0 w9 (List.mem_cons_of_mem _ h)
  have hown : s.vm.findClass "ScaleShopModel" = some m.cls := findClass_of_methodNamed B.named
  have hlocks := B.notSynchronized
  subst hsz
  have hD := hD0.self (sz := s.heap.size)
  clear hD0
  generalize hAe : va_A [(om k0 a I0 J0), (oa (a 22) cI (64 * cl) la), (oa (a 23) cI (64 * cl) lb), (oa (a 24) cI (64 * cl) lc), (oa (a 25) cI (64 * cl) ld)] s.heap.size = A at hD ⊢
  have hA : ∀ q : Nat, s.heap.size ≤ q → A q := fun q h => by rw [← hAe]; exact Or.inr h
  clear hAe
  have hS : va_S A s.heap s.heap [] := va_S.rf
  have hP : va_P (dC, dI) classes [(om k0 a I0 J0), (oa (a 22) cI (64 * cl) la), (oa (a 23) cI (64 * cl) lb), (oa (a 24) cI (64 * cl) lc), (oa (a 25) cI (64 * cl) ld)] s.heap := hP
  obtain ⟨Q9, hQ9⟩ : ∃ Q9 : State → Prop, Q9 = MQ below (zQ none (fun t => ∃ (t9 : Nat), ∃ (la1 : Nat → Int32), ∃ (lb1 : Nat → Int32), ∃ (lc1 : Nat → Int32), ∃ (ld1 : Nat → Int32), (t9 ≤ ln) ∧ (∀ j, j < t9 → ∃ i, i < ln ∧ lb1 j = lb i ∧ lc1 j = lc i) ∧ va_P (dC, dI) classes [(om k0 a (upd I0 26 (nI t9)) J0), (oa (a 22) cI (64 * cl) la1), (oa (a 23) cI (64 * cl) lb1), (oa (a 24) cI (64 * cl) lc1), (oa (a 25) cI (64 * cl) ld1)] t.heap ∧ va_D A [(om k0 a (upd I0 26 (nI t9)) J0), (oa (a 22) cI (64 * cl) la1), (oa (a 23) cI (64 * cl) lb1), (oa (a 24) cI (64 * cl) lc1), (oa (a 25) cI (64 * cl) ld1)]) A) ([.ref k0, .int (nI fr)] : List Value).toArray s 0 0 A := ⟨_, rfl⟩
  rw [← hQ9]
  have hl := lv_entry ([.ref k0, .int (nI fr)]) (n := 4) (Nat.le_of_ble_eq_true rfl)
  rw [lg_entry_eq]
  generalize (lg_sl ([.ref k0, .int (nI fr)]) ++ List.replicate (4 - (lg_sl ([.ref k0, .int (nI fr)])).length) Slot.unset).toArray = ls at hl ⊢
  have hl : lv_has ls 4 [(0, .ref k0), (1, .int (nI fr))] := hl
  refine lv_iconst (v := 0) hx hb dX11_squeeze_0 rfl ?_
  refine lv_istore_n (lv' := [(2, .int 0), (0, .ref k0), (1, .int (nI fr))]) hx hb dX11_squeeze_1 rfl hl (Nat.le_of_ble_eq_true rfl) rfl (fun ls hl => ?_)
  refine lv_iconst (v := 0) hx hb dX11_squeeze_2 rfl ?_
  refine lv_istore_n (lv' := [(3, .int 0), (2, .int 0), (0, .ref k0), (1, .int (nI fr))]) hx hb dX11_squeeze_3 rfl hl (Nat.le_of_ble_eq_true rfl) rfl (fun ls hl => ?_)
  have hl_4 : ∀ (n9 : Nat) (k : Nat) (t9 : Nat) (la1 : Nat → Int32) (lb1 : Nat → Int32) (lc1 : Nat → Int32) (ld1 : Nat → Int32) (H : Heap) (locs : List Loc) (ls : Array Slot), ln - k < n9 → (k ≤ ln) → (t9 ≤ k) → (∀ j, j < t9 → ∃ i, i < ln ∧ lb1 j = lb i ∧ lc1 j = lc i) → (∀ j, k ≤ j → lb1 j = lb j ∧ lc1 j = lc j) → va_P (dC, dI) classes [(om k0 a I0 J0), (oa (a 22) cI (64 * cl) la1), (oa (a 23) cI (64 * cl) lb1), (oa (a 24) cI (64 * cl) lc1), (oa (a 25) cI (64 * cl) ld1)] H → va_D A [(om k0 a I0 J0), (oa (a 22) cI (64 * cl) la1), (oa (a 23) cI (64 * cl) lb1), (oa (a 24) cI (64 * cl) lc1), (oa (a 25) cI (64 * cl) ld1)] → va_S A s.heap H locs → lv_has ls 4 [(3, .int (nI k)), (2, .int (nI t9)), (0, .ref k0), (1, .int (nI fr))] → W p l e ((headSpec (.code yX11_squeeze cX11_squeeze 4 none :: ws0) ({ frames := 0, cells := 0, slots := 0, locals := 0 } : Room)).room) s m ([.ref k0, .int (nI fr)] : List Value).toArray below meth c H locs 0 0 Q9 (F0 m 4 ls []) := by
    intro n9
    induction n9 with
    | zero => intro k t9 la1 lb1 lc1 ld1 H locs ls hm; exact absurd hm (Nat.not_lt_zero _)
    | succ n9 ih_4 =>
      intro k t9 la1 lb1 lc1 ld1 H locs ls hm hk ht hs hrr hP hD hS hl
      refine lv_iload_n hx hb dX11_squeeze_4 rfl (lv_at hl 0 rfl) ?_
      refine lv_aload_n hx hb dX11_squeeze_5 rfl (lv_at hl 2 rfl) ?_
      refine va_get (D := (dC, dI)) (ci := 9) (v := .int (I0 26)) (C := RX11) (T := TX11) (N := 55) hx hb hts inX11 hown hK hP 0 rfl rfl 26 (Nat.le_of_ble_eq_true rfl) (hts _ mw_1185) (fun _ h9 => h9) rfl dX11_squeeze_6 ?_
      refine zz_i (v := nI ln) (hln) ?_
      have b9_2 : k < 2147483648 := by omega
      have b9_3 : ln < 2147483648 := by omega
      refine lv_icmp_ge (tgt := 90) hx hb dX11_squeeze_9 rfl (fun c_1 => ?_) (fun c_1 => ?_)
      · have c_1 : ((ln : Nat) : Int) ≤ ((k : Nat) : Int) := zc_le (nI_toInt b9_3) (nI_toInt b9_2) c_1
        refine lv_aload_n hx hb dX11_squeeze_90 rfl (lv_at hl 2 rfl) ?_
        refine lv_iload_n hx hb dX11_squeeze_91 rfl (lv_at hl 1 rfl) ?_
        refine va_put (D := (dC, dI)) (ci := 9) (v := .int (nI t9)) (ty := .int) (C := RX11) (T := TX11) (N := 55) hx hb hts inX11 tyX11 tyX11_ok nmX11 hown hK hP hD hS 0 rfl rfl 26 (by decide) (hts _ mw_1185) (fun _ h9 => h9) rfl (by decide +kernel) rfl rfl (Nat.le_of_ble_eq_true rfl) dX11_squeeze_92 (fun H locs hP hD hS => ?_)
        obtain ⟨hP, hD⟩ : zPD (dC, dI) classes A [(om k0 a (upd I0 26 (nI t9)) J0), (oa (a 22) cI (64 * cl) la1), (oa (a 23) cI (64 * cl) lb1), (oa (a 24) cI (64 * cl) lc1), (oa (a 25) cI (64 * cl) ld1)] H := ⟨hP, hD⟩
        obtain ⟨hP9, hD9⟩ := zq_sub (wc := [(om k0 a (upd I0 26 (nI t9)) J0), (oa (a 22) cI (64 * cl) la1), (oa (a 23) cI (64 * cl) lb1), (oa (a 24) cI (64 * cl) lc1), (oa (a 25) cI (64 * cl) ld1)]) hP hD [0, 1, 2, 3, 4] rfl rfl
        rw [hQ9]
        exact W.vret hx hb hr (fun t ht hW => ⟨⟨rfl, t9, la1, lb1, lc1, ld1, (by omega), (hs), by rw [ht]; exact hP9, hD9⟩, hS.F ht⟩) hS.2.2 dX11_squeeze_95
      · have c_1 : ((k : Nat) : Int) < ((ln : Nat) : Int) := zc_nle (nI_toInt b9_3) (nI_toInt b9_2) c_1
        refine lv_iload_n hx hb dX11_squeeze_12 rfl (lv_at hl 0 rfl) ?_
        refine lv_iload_n hx hb dX11_squeeze_13 rfl (lv_at hl 3 rfl) ?_
        have b9_5 : fr < 2147483648 := by omega
        refine lv_icmp_ge (tgt := 33) hx hb dX11_squeeze_14 rfl (fun c_4 => ?_) (fun c_4 => ?_)
        · have c_4 : ((fr : Nat) : Int) ≤ ((k : Nat) : Int) := zc_le (nI_toInt b9_5) (nI_toInt b9_2) c_4
          refine lv_aload_n hx hb dX11_squeeze_33 rfl (lv_at hl 2 rfl) ?_
          refine va_get (D := (dC, dI)) (ci := 9) (v := .ref (a 22)) (C := RX11) (T := TX11) (N := 55) hx hb hts inX11 hown hK hP 0 rfl rfl 22 (Nat.le_of_ble_eq_true rfl) (hts _ mw_1181) (fun _ h9 => h9) rfl dX11_squeeze_34 ?_
          refine lv_iload_n hx hb dX11_squeeze_37 rfl (lv_at hl 1 rfl) ?_
          refine lv_aload_n hx hb dX11_squeeze_38 rfl (lv_at hl 2 rfl) ?_
          refine va_get (D := (dC, dI)) (ci := 9) (v := .ref (a 22)) (C := RX11) (T := TX11) (N := 55) hx hb hts inX11 hown hK hP 0 rfl rfl 22 (Nat.le_of_ble_eq_true rfl) (hts _ mw_1181) (fun _ h9 => h9) rfl dX11_squeeze_39 ?_
          refine lv_iload_n hx hb dX11_squeeze_42 rfl (lv_at hl 0 rfl) ?_
          have b9_6 : k < (64 * cl) := by omega
          have b9_7 : (64 * cl) < 2147483648 := by omega
          refine z_iald hx hb hK hP 1 0 rfl rfl (e := k) rfl b9_6 b9_7 dX11_squeeze_43 ?_
          have b9_8 : t9 < (64 * cl) := by omega
          refine z_iast hx hb hK hP hD hS 1 0 rfl rfl (e := t9) (x := la1 k) rfl b9_8 b9_7 dX11_squeeze_44 (fun H locs hP hD hS => ?_)
          obtain ⟨hP, hD⟩ : zPD (dC, dI) classes A [(om k0 a I0 J0), (oa (a 22) cI (64 * cl) (upd la1 t9 (la1 k))), (oa (a 23) cI (64 * cl) lb1), (oa (a 24) cI (64 * cl) lc1), (oa (a 25) cI (64 * cl) ld1)] H := ⟨hP, hD⟩
          refine lv_aload_n hx hb dX11_squeeze_45 rfl (lv_at hl 2 rfl) ?_
          refine va_get (D := (dC, dI)) (ci := 9) (v := .ref (a 23)) (C := RX11) (T := TX11) (N := 55) hx hb hts inX11 hown hK hP 0 rfl rfl 23 (Nat.le_of_ble_eq_true rfl) (hts _ mw_1182) (fun _ h9 => h9) rfl dX11_squeeze_46 ?_
          refine lv_iload_n hx hb dX11_squeeze_49 rfl (lv_at hl 1 rfl) ?_
          refine lv_aload_n hx hb dX11_squeeze_50 rfl (lv_at hl 2 rfl) ?_
          refine va_get (D := (dC, dI)) (ci := 9) (v := .ref (a 23)) (C := RX11) (T := TX11) (N := 55) hx hb hts inX11 hown hK hP 0 rfl rfl 23 (Nat.le_of_ble_eq_true rfl) (hts _ mw_1182) (fun _ h9 => h9) rfl dX11_squeeze_51 ?_
          refine lv_iload_n hx hb dX11_squeeze_54 rfl (lv_at hl 0 rfl) ?_
          refine z_iald hx hb hK hP 2 0 rfl rfl (e := k) rfl b9_6 b9_7 dX11_squeeze_55 ?_
          refine z_iast hx hb hK hP hD hS 2 0 rfl rfl (e := t9) (x := lb1 k) rfl b9_8 b9_7 dX11_squeeze_56 (fun H locs hP hD hS => ?_)
          obtain ⟨hP, hD⟩ : zPD (dC, dI) classes A [(om k0 a I0 J0), (oa (a 22) cI (64 * cl) (upd la1 t9 (la1 k))), (oa (a 23) cI (64 * cl) (upd lb1 t9 (lb1 k))), (oa (a 24) cI (64 * cl) lc1), (oa (a 25) cI (64 * cl) ld1)] H := ⟨hP, hD⟩
          refine lv_aload_n hx hb dX11_squeeze_57 rfl (lv_at hl 2 rfl) ?_
          refine va_get (D := (dC, dI)) (ci := 9) (v := .ref (a 24)) (C := RX11) (T := TX11) (N := 55) hx hb hts inX11 hown hK hP 0 rfl rfl 24 (Nat.le_of_ble_eq_true rfl) (hts _ mw_1183) (fun _ h9 => h9) rfl dX11_squeeze_58 ?_
          refine lv_iload_n hx hb dX11_squeeze_61 rfl (lv_at hl 1 rfl) ?_
          refine lv_aload_n hx hb dX11_squeeze_62 rfl (lv_at hl 2 rfl) ?_
          refine va_get (D := (dC, dI)) (ci := 9) (v := .ref (a 24)) (C := RX11) (T := TX11) (N := 55) hx hb hts inX11 hown hK hP 0 rfl rfl 24 (Nat.le_of_ble_eq_true rfl) (hts _ mw_1183) (fun _ h9 => h9) rfl dX11_squeeze_63 ?_
          refine lv_iload_n hx hb dX11_squeeze_66 rfl (lv_at hl 0 rfl) ?_
          refine z_iald hx hb hK hP 3 0 rfl rfl (e := k) rfl b9_6 b9_7 dX11_squeeze_67 ?_
          refine z_iast hx hb hK hP hD hS 3 0 rfl rfl (e := t9) (x := lc1 k) rfl b9_8 b9_7 dX11_squeeze_68 (fun H locs hP hD hS => ?_)
          obtain ⟨hP, hD⟩ : zPD (dC, dI) classes A [(om k0 a I0 J0), (oa (a 22) cI (64 * cl) (upd la1 t9 (la1 k))), (oa (a 23) cI (64 * cl) (upd lb1 t9 (lb1 k))), (oa (a 24) cI (64 * cl) (upd lc1 t9 (lc1 k))), (oa (a 25) cI (64 * cl) ld1)] H := ⟨hP, hD⟩
          refine lv_aload_n hx hb dX11_squeeze_69 rfl (lv_at hl 2 rfl) ?_
          refine va_get (D := (dC, dI)) (ci := 9) (v := .ref (a 25)) (C := RX11) (T := TX11) (N := 55) hx hb hts inX11 hown hK hP 0 rfl rfl 25 (Nat.le_of_ble_eq_true rfl) (hts _ mw_1184) (fun _ h9 => h9) rfl dX11_squeeze_70 ?_
          refine lv_iload_n hx hb dX11_squeeze_73 rfl (lv_at hl 1 rfl) ?_
          refine lv_aload_n hx hb dX11_squeeze_74 rfl (lv_at hl 2 rfl) ?_
          refine va_get (D := (dC, dI)) (ci := 9) (v := .ref (a 25)) (C := RX11) (T := TX11) (N := 55) hx hb hts inX11 hown hK hP 0 rfl rfl 25 (Nat.le_of_ble_eq_true rfl) (hts _ mw_1184) (fun _ h9 => h9) rfl dX11_squeeze_75 ?_
          refine lv_iload_n hx hb dX11_squeeze_78 rfl (lv_at hl 0 rfl) ?_
          refine z_iald hx hb hK hP 4 0 rfl rfl (e := k) rfl b9_6 b9_7 dX11_squeeze_79 ?_
          refine z_iast hx hb hK hP hD hS 4 0 rfl rfl (e := t9) (x := ld1 k) rfl b9_8 b9_7 dX11_squeeze_80 (fun H locs hP hD hS => ?_)
          obtain ⟨hP, hD⟩ : zPD (dC, dI) classes A [(om k0 a I0 J0), (oa (a 22) cI (64 * cl) (upd la1 t9 (la1 k))), (oa (a 23) cI (64 * cl) (upd lb1 t9 (lb1 k))), (oa (a 24) cI (64 * cl) (upd lc1 t9 (lc1 k))), (oa (a 25) cI (64 * cl) (upd ld1 t9 (ld1 k)))] H := ⟨hP, hD⟩
          refine lv_iinc (v := nI (t9 + 1)) (lv' := [(2, .int (nI (t9 + 1))), (3, .int (nI k)), (0, .ref k0), (1, .int (nI fr))]) hx hb dX11_squeeze_81 hl (k := 1) rfl (nI_add t9 1) (Nat.le_of_ble_eq_true rfl) rfl (fun ls hl => ?_)
          refine lv_iinc (v := nI (k + 1)) (lv' := [(3, .int (nI (k + 1))), (2, .int (nI (t9 + 1))), (0, .ref k0), (1, .int (nI fr))]) hx hb dX11_squeeze_84 hl (k := 1) rfl (nI_add k 1) (Nat.le_of_ble_eq_true rfl) rfl (fun ls hl => ?_)
          refine lv_goto (tgt := 4) hx hb dX11_squeeze_87 rfl ?_
          exact ih_4 (k + 1) (t9 + 1) (upd la1 t9 (la1 k)) (upd lb1 t9 (lb1 k)) (upd lc1 t9 (lc1 k)) (upd ld1 t9 (ld1 k)) H locs ls (by first | with_reducible assumption | omega) (by first | with_reducible assumption | omega) (by first | with_reducible assumption | omega) (by first | exact hs | (intro j hj; rcases Nat.lt_or_ge j t9 with h | h; simp only [upd, if_neg (show j ≠ t9 by omega)]; exact hs j h; rw [show j = t9 by omega]; simp only [upd, if_true]; exact ⟨k, by omega, (hrr k (Nat.le_refl _)).1, (hrr k (Nat.le_refl _)).2⟩)) (by intro j hj; first | exact hrr j (by first | with_reducible assumption | omega) | (simp only [upd, if_neg (show j ≠ t9 by omega)]; exact hrr j (by first | with_reducible assumption | omega))) hP hD hS (lv_sub hl [0, 1, 2, 3] rfl)
        · have c_4 : ((k : Nat) : Int) < ((fr : Nat) : Int) := zc_nle (nI_toInt b9_5) (nI_toInt b9_2) c_4
          refine lv_aload_n hx hb dX11_squeeze_17 rfl (lv_at hl 2 rfl) ?_
          refine va_get (D := (dC, dI)) (ci := 9) (v := .ref (a 25)) (C := RX11) (T := TX11) (N := 55) hx hb hts inX11 hown hK hP 0 rfl rfl 25 (Nat.le_of_ble_eq_true rfl) (hts _ mw_1184) (fun _ h9 => h9) rfl dX11_squeeze_18 ?_
          refine lv_iload_n hx hb dX11_squeeze_21 rfl (lv_at hl 0 rfl) ?_
          have b9_9 : k < (64 * cl) := by omega
          have b9_10 : (64 * cl) < 2147483648 := by omega
          refine z_iald hx hb hK hP 4 0 rfl rfl (e := k) rfl b9_9 b9_10 dX11_squeeze_22 ?_
          refine lv_aload_n hx hb dX11_squeeze_23 rfl (lv_at hl 2 rfl) ?_
          refine va_get (D := (dC, dI)) (ci := 9) (v := .int (I0 19)) (C := RX11) (T := TX11) (N := 55) hx hb hts inX11 hown hK hP 0 rfl rfl 19 (Nat.le_of_ble_eq_true rfl) (hts _ mw_1178) (fun _ h9 => h9) rfl dX11_squeeze_24 ?_
          refine lv_icmp_le (tgt := 33) hx hb dX11_squeeze_27 rfl (fun c_11 => ?_) (fun c_11 => ?_)
          · have c_11 : (ld1 k).toInt ≤ (I0 19).toInt := zc_le rfl rfl c_11
            refine lv_aload_n hx hb dX11_squeeze_33 rfl (lv_at hl 2 rfl) ?_
            refine va_get (D := (dC, dI)) (ci := 9) (v := .ref (a 22)) (C := RX11) (T := TX11) (N := 55) hx hb hts inX11 hown hK hP 0 rfl rfl 22 (Nat.le_of_ble_eq_true rfl) (hts _ mw_1181) (fun _ h9 => h9) rfl dX11_squeeze_34 ?_
            refine lv_iload_n hx hb dX11_squeeze_37 rfl (lv_at hl 1 rfl) ?_
            refine lv_aload_n hx hb dX11_squeeze_38 rfl (lv_at hl 2 rfl) ?_
            refine va_get (D := (dC, dI)) (ci := 9) (v := .ref (a 22)) (C := RX11) (T := TX11) (N := 55) hx hb hts inX11 hown hK hP 0 rfl rfl 22 (Nat.le_of_ble_eq_true rfl) (hts _ mw_1181) (fun _ h9 => h9) rfl dX11_squeeze_39 ?_
            refine lv_iload_n hx hb dX11_squeeze_42 rfl (lv_at hl 0 rfl) ?_
            refine z_iald hx hb hK hP 1 0 rfl rfl (e := k) rfl b9_9 b9_10 dX11_squeeze_43 ?_
            have b9_12 : t9 < (64 * cl) := by omega
            refine z_iast hx hb hK hP hD hS 1 0 rfl rfl (e := t9) (x := la1 k) rfl b9_12 b9_10 dX11_squeeze_44 (fun H locs hP hD hS => ?_)
            obtain ⟨hP, hD⟩ : zPD (dC, dI) classes A [(om k0 a I0 J0), (oa (a 22) cI (64 * cl) (upd la1 t9 (la1 k))), (oa (a 23) cI (64 * cl) lb1), (oa (a 24) cI (64 * cl) lc1), (oa (a 25) cI (64 * cl) ld1)] H := ⟨hP, hD⟩
            refine lv_aload_n hx hb dX11_squeeze_45 rfl (lv_at hl 2 rfl) ?_
            refine va_get (D := (dC, dI)) (ci := 9) (v := .ref (a 23)) (C := RX11) (T := TX11) (N := 55) hx hb hts inX11 hown hK hP 0 rfl rfl 23 (Nat.le_of_ble_eq_true rfl) (hts _ mw_1182) (fun _ h9 => h9) rfl dX11_squeeze_46 ?_
            refine lv_iload_n hx hb dX11_squeeze_49 rfl (lv_at hl 1 rfl) ?_
            refine lv_aload_n hx hb dX11_squeeze_50 rfl (lv_at hl 2 rfl) ?_
            refine va_get (D := (dC, dI)) (ci := 9) (v := .ref (a 23)) (C := RX11) (T := TX11) (N := 55) hx hb hts inX11 hown hK hP 0 rfl rfl 23 (Nat.le_of_ble_eq_true rfl) (hts _ mw_1182) (fun _ h9 => h9) rfl dX11_squeeze_51 ?_
            refine lv_iload_n hx hb dX11_squeeze_54 rfl (lv_at hl 0 rfl) ?_
            refine z_iald hx hb hK hP 2 0 rfl rfl (e := k) rfl b9_9 b9_10 dX11_squeeze_55 ?_
            refine z_iast hx hb hK hP hD hS 2 0 rfl rfl (e := t9) (x := lb1 k) rfl b9_12 b9_10 dX11_squeeze_56 (fun H locs hP hD hS => ?_)
            obtain ⟨hP, hD⟩ : zPD (dC, dI) classes A [(om k0 a I0 J0), (oa (a 22) cI (64 * cl) (upd la1 t9 (la1 k))), (oa (a 23) cI (64 * cl) (upd lb1 t9 (lb1 k))), (oa (a 24) cI (64 * cl) lc1), (oa (a 25) cI (64 * cl) ld1)] H := ⟨hP, hD⟩
            refine lv_aload_n hx hb dX11_squeeze_57 rfl (lv_at hl 2 rfl) ?_
            refine va_get (D := (dC, dI)) (ci := 9) (v := .ref (a 24)) (C := RX11) (T := TX11) (N := 55) hx hb hts inX11 hown hK hP 0 rfl rfl 24 (Nat.le_of_ble_eq_true rfl) (hts _ mw_1183) (fun _ h9 => h9) rfl dX11_squeeze_58 ?_
            refine lv_iload_n hx hb dX11_squeeze_61 rfl (lv_at hl 1 rfl) ?_
            refine lv_aload_n hx hb dX11_squeeze_62 rfl (lv_at hl 2 rfl) ?_
            refine va_get (D := (dC, dI)) (ci := 9) (v := .ref (a 24)) (C := RX11) (T := TX11) (N := 55) hx hb hts inX11 hown hK hP 0 rfl rfl 24 (Nat.le_of_ble_eq_true rfl) (hts _ mw_1183) (fun _ h9 => h9) rfl dX11_squeeze_63 ?_
            refine lv_iload_n hx hb dX11_squeeze_66 rfl (lv_at hl 0 rfl) ?_
            refine z_iald hx hb hK hP 3 0 rfl rfl (e := k) rfl b9_9 b9_10 dX11_squeeze_67 ?_
            refine z_iast hx hb hK hP hD hS 3 0 rfl rfl (e := t9) (x := lc1 k) rfl b9_12 b9_10 dX11_squeeze_68 (fun H locs hP hD hS => ?_)
            obtain ⟨hP, hD⟩ : zPD (dC, dI) classes A [(om k0 a I0 J0), (oa (a 22) cI (64 * cl) (upd la1 t9 (la1 k))), (oa (a 23) cI (64 * cl) (upd lb1 t9 (lb1 k))), (oa (a 24) cI (64 * cl) (upd lc1 t9 (lc1 k))), (oa (a 25) cI (64 * cl) ld1)] H := ⟨hP, hD⟩
            refine lv_aload_n hx hb dX11_squeeze_69 rfl (lv_at hl 2 rfl) ?_
            refine va_get (D := (dC, dI)) (ci := 9) (v := .ref (a 25)) (C := RX11) (T := TX11) (N := 55) hx hb hts inX11 hown hK hP 0 rfl rfl 25 (Nat.le_of_ble_eq_true rfl) (hts _ mw_1184) (fun _ h9 => h9) rfl dX11_squeeze_70 ?_
            refine lv_iload_n hx hb dX11_squeeze_73 rfl (lv_at hl 1 rfl) ?_
            refine lv_aload_n hx hb dX11_squeeze_74 rfl (lv_at hl 2 rfl) ?_
            refine va_get (D := (dC, dI)) (ci := 9) (v := .ref (a 25)) (C := RX11) (T := TX11) (N := 55) hx hb hts inX11 hown hK hP 0 rfl rfl 25 (Nat.le_of_ble_eq_true rfl) (hts _ mw_1184) (fun _ h9 => h9) rfl dX11_squeeze_75 ?_
            refine lv_iload_n hx hb dX11_squeeze_78 rfl (lv_at hl 0 rfl) ?_
            refine z_iald hx hb hK hP 4 0 rfl rfl (e := k) rfl b9_9 b9_10 dX11_squeeze_79 ?_
            refine z_iast hx hb hK hP hD hS 4 0 rfl rfl (e := t9) (x := ld1 k) rfl b9_12 b9_10 dX11_squeeze_80 (fun H locs hP hD hS => ?_)
            obtain ⟨hP, hD⟩ : zPD (dC, dI) classes A [(om k0 a I0 J0), (oa (a 22) cI (64 * cl) (upd la1 t9 (la1 k))), (oa (a 23) cI (64 * cl) (upd lb1 t9 (lb1 k))), (oa (a 24) cI (64 * cl) (upd lc1 t9 (lc1 k))), (oa (a 25) cI (64 * cl) (upd ld1 t9 (ld1 k)))] H := ⟨hP, hD⟩
            refine lv_iinc (v := nI (t9 + 1)) (lv' := [(2, .int (nI (t9 + 1))), (3, .int (nI k)), (0, .ref k0), (1, .int (nI fr))]) hx hb dX11_squeeze_81 hl (k := 1) rfl (nI_add t9 1) (Nat.le_of_ble_eq_true rfl) rfl (fun ls hl => ?_)
            refine lv_iinc (v := nI (k + 1)) (lv' := [(3, .int (nI (k + 1))), (2, .int (nI (t9 + 1))), (0, .ref k0), (1, .int (nI fr))]) hx hb dX11_squeeze_84 hl (k := 1) rfl (nI_add k 1) (Nat.le_of_ble_eq_true rfl) rfl (fun ls hl => ?_)
            refine lv_goto (tgt := 4) hx hb dX11_squeeze_87 rfl ?_
            exact ih_4 (k + 1) (t9 + 1) (upd la1 t9 (la1 k)) (upd lb1 t9 (lb1 k)) (upd lc1 t9 (lc1 k)) (upd ld1 t9 (ld1 k)) H locs ls (by first | with_reducible assumption | omega) (by first | with_reducible assumption | omega) (by first | with_reducible assumption | omega) (by first | exact hs | (intro j hj; rcases Nat.lt_or_ge j t9 with h | h; simp only [upd, if_neg (show j ≠ t9 by omega)]; exact hs j h; rw [show j = t9 by omega]; simp only [upd, if_true]; exact ⟨k, by omega, (hrr k (Nat.le_refl _)).1, (hrr k (Nat.le_refl _)).2⟩)) (by intro j hj; first | exact hrr j (by first | with_reducible assumption | omega) | (simp only [upd, if_neg (show j ≠ t9 by omega)]; exact hrr j (by first | with_reducible assumption | omega))) hP hD hS (lv_sub hl [0, 1, 2, 3] rfl)
          · have c_11 : (I0 19).toInt < (ld1 k).toInt := zc_nle rfl rfl c_11
            refine lv_goto (tgt := 84) hx hb dX11_squeeze_30 rfl ?_
            refine lv_iinc (v := nI (k + 1)) (lv' := [(3, .int (nI (k + 1))), (2, .int (nI t9)), (0, .ref k0), (1, .int (nI fr))]) hx hb dX11_squeeze_84 hl (k := 0) rfl (nI_add k 1) (Nat.le_of_ble_eq_true rfl) rfl (fun ls hl => ?_)
            refine lv_goto (tgt := 4) hx hb dX11_squeeze_87 rfl ?_
            exact ih_4 (k + 1) t9 la1 lb1 lc1 ld1 H locs ls (by first | with_reducible assumption | omega) (by first | with_reducible assumption | omega) (by first | with_reducible assumption | omega) (by first | exact hs | (intro j hj; rcases Nat.lt_or_ge j t9 with h | h; simp only [upd, if_neg (show j ≠ t9 by omega)]; exact hs j h; rw [show j = t9 by omega]; simp only [upd, if_true]; exact ⟨k, by omega, (hrr k (Nat.le_refl _)).1, (hrr k (Nat.le_refl _)).2⟩)) (by intro j hj; first | exact hrr j (by first | with_reducible assumption | omega) | (simp only [upd, if_neg (show j ≠ t9 by omega)]; exact hrr j (by first | with_reducible assumption | omega))) hP hD hS (lv_sub hl [0, 1, 2, 3] rfl)
  exact hl_4 _ 0 0 la lb lc ld s.heap [] ls (Nat.lt_succ_self _) (by first | with_reducible assumption | omega) (by first | with_reducible assumption | omega) (by intro j hj; omega) (by intro j hj; exact ⟨rfl, rfl⟩) hP hD hS (lv_sub hl [0, 1, 2, 3] rfl)
end
section
set_option maxHeartbeats 4000000 in
set_option maxRecDepth 100000 in
theorem k_M_feature_4 (l : Launch) (dC : Nat → ClassId) (dI : Nat → Nat → Nat) (cI cZ cF : ClassId) (sz : Nat) (k0 : Nat) (a : Nat → Nat) (I0 : Nat → Int32) (J0 : Nat → Int64) (k1 : Int32) (k2 : Int32) (k3 : Int32) (k4 : Int32) (hbad : ¬ ((0 ≤ k1.toInt ∧ k1.toInt ≤ 6 ∧ 0 ≤ k2.toInt ∧ k2.toInt ≤ 9) ∧ (0 ≤ k3.toInt ∧ k3.toInt ≤ 100 ∧ 0 ≤ k4.toInt ∧ k4.toInt ≤ 9))) : Met l yX11_feature (.code yX11_feature cX11_feature 6 (some .int) :: ws0) ({ frames := 1, cells := 0, slots := 0, locals := 21 } : Room) (va_Pc [.ref k0, .int k1, .int k2, .int k3, .int k4] (zPre (dC, dI) classes (zTy cI cZ cF) [(om k0 a I0 J0)] sz zXN)) (zQ (some (.int (-1))) (fun t => va_P (dC, dI) classes [(om k0 a (upd (upd I0 14 4) 15 (I0 15)) J0)] t.heap ∧ va_D (va_A [(om k0 a I0 J0)] sz) [(om k0 a (upd (upd I0 14 4) 15 (I0 15)) J0)]) (va_A [(om k0 a I0 J0)] sz)) 0 0 (va_A [(om k0 a I0 J0)] sz) := by
  refine Met.ofW (cc := cX11_feature) (maxL := 6) (ret := (some .int)) rfl rfl ?_
  intro p e s m args below meth c s₁ B hml hv
  obtain ⟨rfl, hsz, hP, hK, hD0, hXN⟩ := hv
  have hx := B.exec
  have hb := B.bytes
  have hr := B.returns
  have hts0 := atoms_spec (ws := .code yX11_feature cX11_feature 6 (some .int) :: ws0) B.pre
  have hts : ∀ w9 ∈ ws0, w9.before ([.ref k0, .int k1, .int k2, .int k3, .int k4] : List Value).toArray s = true := fun w9 h => hts0 w9 (List.mem_cons_of_mem _ h)
  have hown : s.vm.findClass "ScaleShopModel" = some m.cls := findClass_of_methodNamed B.named
  have hlocks := B.notSynchronized
  subst hsz
  have hD := hD0.self (sz := s.heap.size)
  clear hD0
  generalize hAe : va_A [(om k0 a I0 J0)] s.heap.size = A at hD ⊢
  have hA : ∀ q : Nat, s.heap.size ≤ q → A q := fun q h => by rw [← hAe]; exact Or.inr h
  clear hAe
  have hS : va_S A s.heap s.heap [] := va_S.rf
  have hP : va_P (dC, dI) classes [(om k0 a I0 J0)] s.heap := hP
  obtain ⟨Q9, hQ9⟩ : ∃ Q9 : State → Prop, Q9 = MQ below (zQ (some (.int (-1))) (fun t => va_P (dC, dI) classes [(om k0 a (upd (upd I0 14 4) 15 (I0 15)) J0)] t.heap ∧ va_D A [(om k0 a (upd (upd I0 14 4) 15 (I0 15)) J0)]) A) ([.ref k0, .int k1, .int k2, .int k3, .int k4] : List Value).toArray s 0 0 A := ⟨_, rfl⟩
  rw [← hQ9]
  have hl := lv_entry ([.ref k0, .int k1, .int k2, .int k3, .int k4]) (n := 6) (Nat.le_of_ble_eq_true rfl)
  rw [lg_entry_eq]
  generalize (lg_sl ([.ref k0, .int k1, .int k2, .int k3, .int k4]) ++ List.replicate (6 - (lg_sl ([.ref k0, .int k1, .int k2, .int k3, .int k4])).length) Slot.unset).toArray = ls at hl ⊢
  have hl : lv_has ls 6 [(0, .ref k0), (1, .int k1), (2, .int k2), (3, .int k3), (4, .int k4)] := hl
  refine lv_iload_n hx hb dX11_feature_0 rfl (lv_at hl 1 rfl) ?_
  refine lv_if_lt (tgt := 42) hx hb dX11_feature_1 rfl (fun c_1 => ?_) (fun c_1 => ?_)
  · have c_1 : k1.toInt < 0 := zc_lt rfl rfl c_1
    refine lv_aload_n hx hb dX11_feature_42 rfl (lv_at hl 0 rfl) ?_
    refine lv_iconst (v := 4) hx hb dX11_feature_43 rfl ?_
    obtain ⟨hPc, hDc, hFc⟩ := zc_sub (wc := [(om k0 a I0 J0)]) hP hD hS hA [0] rfl rfl
    refine zcall (st1 := [.int (-1)]) (va_runV (As := [.int 4]) (rest := []) ⟨hx, hb, hml, hown, hts⟩ (k_M_refuse l dC dI cI cZ cF s.heap.size k0 a I0 J0 4 (by decide)) (csV_185 hts rfl rfl ⟨Nat.le_of_ble_eq_true rfl, Nat.le_of_ble_eq_true rfl⟩) (zPV2 (q0 := 0) (ci := 9) hPc hDc hK hXN rfl rfl) rfl rfl hl.1 rfl (lv_room (Nat.le_of_ble_eq_true rfl)) dX11_feature_44 ⟨Nat.le_of_ble_eq_true rfl, Nat.le_of_ble_eq_true rfl⟩) hS hFc hFc rfl (fun t H locs ht hB hk1 hS => ?_)
    obtain ⟨hP1, hD1⟩ := hB
    rw [ht] at hP1
    obtain ⟨hP, hD⟩ := zk (W2 := [(om k0 a (upd (upd I0 14 4) 15 (I0 15)) J0)]) hP hD [0] [] [] [0] [0] 1 rfl rfl rfl rfl rfl rfl rfl rfl rfl hk1 hFc hP1 hD1
    clear hk1 hPc hDc hFc hP1 hD1 ht
    obtain ⟨hP9, hD9⟩ := zq_sub (wc := [(om k0 a (upd (upd I0 14 4) 15 (I0 15)) J0)]) hP hD [0] rfl rfl
    rw [hQ9]
    exact W.iret (v := (-1)) hx hb hr (fun t ht hW => ⟨⟨rfl, by rw [ht]; exact hP9, hD9⟩, hS.F ht⟩) hS.2.2 dX11_feature_47
  · have c_1 : 0 ≤ k1.toInt := zc_nlt rfl rfl c_1
    refine lv_iload_n hx hb dX11_feature_4 rfl (lv_at hl 1 rfl) ?_
    refine lv_bipush (v := 6) hx hb dX11_feature_5 rfl ?_
    refine lv_icmp_gt (tgt := 42) hx hb dX11_feature_7 rfl (fun c_2 => ?_) (fun c_2 => ?_)
    · have c_2 : 6 < k1.toInt := zc_lt rfl rfl c_2
      refine lv_aload_n hx hb dX11_feature_42 rfl (lv_at hl 0 rfl) ?_
      refine lv_iconst (v := 4) hx hb dX11_feature_43 rfl ?_
      obtain ⟨hPc, hDc, hFc⟩ := zc_sub (wc := [(om k0 a I0 J0)]) hP hD hS hA [0] rfl rfl
      refine zcall (st1 := [.int (-1)]) (va_runV (As := [.int 4]) (rest := []) ⟨hx, hb, hml, hown, hts⟩ (k_M_refuse l dC dI cI cZ cF s.heap.size k0 a I0 J0 4 (by decide)) (csV_185 hts rfl rfl ⟨Nat.le_of_ble_eq_true rfl, Nat.le_of_ble_eq_true rfl⟩) (zPV2 (q0 := 0) (ci := 9) hPc hDc hK hXN rfl rfl) rfl rfl hl.1 rfl (lv_room (Nat.le_of_ble_eq_true rfl)) dX11_feature_44 ⟨Nat.le_of_ble_eq_true rfl, Nat.le_of_ble_eq_true rfl⟩) hS hFc hFc rfl (fun t H locs ht hB hk1 hS => ?_)
      obtain ⟨hP1, hD1⟩ := hB
      rw [ht] at hP1
      obtain ⟨hP, hD⟩ := zk (W2 := [(om k0 a (upd (upd I0 14 4) 15 (I0 15)) J0)]) hP hD [0] [] [] [0] [0] 1 rfl rfl rfl rfl rfl rfl rfl rfl rfl hk1 hFc hP1 hD1
      clear hk1 hPc hDc hFc hP1 hD1 ht
      obtain ⟨hP9, hD9⟩ := zq_sub (wc := [(om k0 a (upd (upd I0 14 4) 15 (I0 15)) J0)]) hP hD [0] rfl rfl
      rw [hQ9]
      exact W.iret (v := (-1)) hx hb hr (fun t ht hW => ⟨⟨rfl, by rw [ht]; exact hP9, hD9⟩, hS.F ht⟩) hS.2.2 dX11_feature_47
    · have c_2 : k1.toInt ≤ 6 := zc_nlt rfl rfl c_2
      refine lv_iload_n hx hb dX11_feature_10 rfl (lv_at hl 2 rfl) ?_
      refine lv_if_lt (tgt := 42) hx hb dX11_feature_11 rfl (fun c_3 => ?_) (fun c_3 => ?_)
      · have c_3 : k2.toInt < 0 := zc_lt rfl rfl c_3
        refine lv_aload_n hx hb dX11_feature_42 rfl (lv_at hl 0 rfl) ?_
        refine lv_iconst (v := 4) hx hb dX11_feature_43 rfl ?_
        obtain ⟨hPc, hDc, hFc⟩ := zc_sub (wc := [(om k0 a I0 J0)]) hP hD hS hA [0] rfl rfl
        refine zcall (st1 := [.int (-1)]) (va_runV (As := [.int 4]) (rest := []) ⟨hx, hb, hml, hown, hts⟩ (k_M_refuse l dC dI cI cZ cF s.heap.size k0 a I0 J0 4 (by decide)) (csV_185 hts rfl rfl ⟨Nat.le_of_ble_eq_true rfl, Nat.le_of_ble_eq_true rfl⟩) (zPV2 (q0 := 0) (ci := 9) hPc hDc hK hXN rfl rfl) rfl rfl hl.1 rfl (lv_room (Nat.le_of_ble_eq_true rfl)) dX11_feature_44 ⟨Nat.le_of_ble_eq_true rfl, Nat.le_of_ble_eq_true rfl⟩) hS hFc hFc rfl (fun t H locs ht hB hk1 hS => ?_)
        obtain ⟨hP1, hD1⟩ := hB
        rw [ht] at hP1
        obtain ⟨hP, hD⟩ := zk (W2 := [(om k0 a (upd (upd I0 14 4) 15 (I0 15)) J0)]) hP hD [0] [] [] [0] [0] 1 rfl rfl rfl rfl rfl rfl rfl rfl rfl hk1 hFc hP1 hD1
        clear hk1 hPc hDc hFc hP1 hD1 ht
        obtain ⟨hP9, hD9⟩ := zq_sub (wc := [(om k0 a (upd (upd I0 14 4) 15 (I0 15)) J0)]) hP hD [0] rfl rfl
        rw [hQ9]
        exact W.iret (v := (-1)) hx hb hr (fun t ht hW => ⟨⟨rfl, by rw [ht]; exact hP9, hD9⟩, hS.F ht⟩) hS.2.2 dX11_feature_47
      · have c_3 : 0 ≤ k2.toInt := zc_nlt rfl rfl c_3
        refine lv_iload_n hx hb dX11_feature_14 rfl (lv_at hl 2 rfl) ?_
        refine lv_bipush (v := 9) hx hb dX11_feature_15 rfl ?_
        refine lv_icmp_gt (tgt := 42) hx hb dX11_feature_17 rfl (fun c_4 => ?_) (fun c_4 => ?_)
        · have c_4 : 9 < k2.toInt := zc_lt rfl rfl c_4
          refine lv_aload_n hx hb dX11_feature_42 rfl (lv_at hl 0 rfl) ?_
          refine lv_iconst (v := 4) hx hb dX11_feature_43 rfl ?_
          obtain ⟨hPc, hDc, hFc⟩ := zc_sub (wc := [(om k0 a I0 J0)]) hP hD hS hA [0] rfl rfl
          refine zcall (st1 := [.int (-1)]) (va_runV (As := [.int 4]) (rest := []) ⟨hx, hb, hml, hown, hts⟩ (k_M_refuse l dC dI cI cZ cF s.heap.size k0 a I0 J0 4 (by decide)) (csV_185 hts rfl rfl ⟨Nat.le_of_ble_eq_true rfl, Nat.le_of_ble_eq_true rfl⟩) (zPV2 (q0 := 0) (ci := 9) hPc hDc hK hXN rfl rfl) rfl rfl hl.1 rfl (lv_room (Nat.le_of_ble_eq_true rfl)) dX11_feature_44 ⟨Nat.le_of_ble_eq_true rfl, Nat.le_of_ble_eq_true rfl⟩) hS hFc hFc rfl (fun t H locs ht hB hk1 hS => ?_)
          obtain ⟨hP1, hD1⟩ := hB
          rw [ht] at hP1
          obtain ⟨hP, hD⟩ := zk (W2 := [(om k0 a (upd (upd I0 14 4) 15 (I0 15)) J0)]) hP hD [0] [] [] [0] [0] 1 rfl rfl rfl rfl rfl rfl rfl rfl rfl hk1 hFc hP1 hD1
          clear hk1 hPc hDc hFc hP1 hD1 ht
          obtain ⟨hP9, hD9⟩ := zq_sub (wc := [(om k0 a (upd (upd I0 14 4) 15 (I0 15)) J0)]) hP hD [0] rfl rfl
          rw [hQ9]
          exact W.iret (v := (-1)) hx hb hr (fun t ht hW => ⟨⟨rfl, by rw [ht]; exact hP9, hD9⟩, hS.F ht⟩) hS.2.2 dX11_feature_47
        · have c_4 : k2.toInt ≤ 9 := zc_nlt rfl rfl c_4
          refine lv_iload_n hx hb dX11_feature_20 rfl (lv_at hl 3 rfl) ?_
          refine lv_if_lt (tgt := 42) hx hb dX11_feature_21 rfl (fun c_5 => ?_) (fun c_5 => ?_)
          · have c_5 : k3.toInt < 0 := zc_lt rfl rfl c_5
            refine lv_aload_n hx hb dX11_feature_42 rfl (lv_at hl 0 rfl) ?_
            refine lv_iconst (v := 4) hx hb dX11_feature_43 rfl ?_
            obtain ⟨hPc, hDc, hFc⟩ := zc_sub (wc := [(om k0 a I0 J0)]) hP hD hS hA [0] rfl rfl
            refine zcall (st1 := [.int (-1)]) (va_runV (As := [.int 4]) (rest := []) ⟨hx, hb, hml, hown, hts⟩ (k_M_refuse l dC dI cI cZ cF s.heap.size k0 a I0 J0 4 (by decide)) (csV_185 hts rfl rfl ⟨Nat.le_of_ble_eq_true rfl, Nat.le_of_ble_eq_true rfl⟩) (zPV2 (q0 := 0) (ci := 9) hPc hDc hK hXN rfl rfl) rfl rfl hl.1 rfl (lv_room (Nat.le_of_ble_eq_true rfl)) dX11_feature_44 ⟨Nat.le_of_ble_eq_true rfl, Nat.le_of_ble_eq_true rfl⟩) hS hFc hFc rfl (fun t H locs ht hB hk1 hS => ?_)
            obtain ⟨hP1, hD1⟩ := hB
            rw [ht] at hP1
            obtain ⟨hP, hD⟩ := zk (W2 := [(om k0 a (upd (upd I0 14 4) 15 (I0 15)) J0)]) hP hD [0] [] [] [0] [0] 1 rfl rfl rfl rfl rfl rfl rfl rfl rfl hk1 hFc hP1 hD1
            clear hk1 hPc hDc hFc hP1 hD1 ht
            obtain ⟨hP9, hD9⟩ := zq_sub (wc := [(om k0 a (upd (upd I0 14 4) 15 (I0 15)) J0)]) hP hD [0] rfl rfl
            rw [hQ9]
            exact W.iret (v := (-1)) hx hb hr (fun t ht hW => ⟨⟨rfl, by rw [ht]; exact hP9, hD9⟩, hS.F ht⟩) hS.2.2 dX11_feature_47
          · have c_5 : 0 ≤ k3.toInt := zc_nlt rfl rfl c_5
            refine lv_iload_n hx hb dX11_feature_24 rfl (lv_at hl 3 rfl) ?_
            refine lv_bipush (v := 100) hx hb dX11_feature_25 rfl ?_
            refine lv_icmp_gt (tgt := 42) hx hb dX11_feature_27 rfl (fun c_6 => ?_) (fun c_6 => ?_)
            · have c_6 : 100 < k3.toInt := zc_lt rfl rfl c_6
              refine lv_aload_n hx hb dX11_feature_42 rfl (lv_at hl 0 rfl) ?_
              refine lv_iconst (v := 4) hx hb dX11_feature_43 rfl ?_
              obtain ⟨hPc, hDc, hFc⟩ := zc_sub (wc := [(om k0 a I0 J0)]) hP hD hS hA [0] rfl rfl
              refine zcall (st1 := [.int (-1)]) (va_runV (As := [.int 4]) (rest := []) ⟨hx, hb, hml, hown, hts⟩ (k_M_refuse l dC dI cI cZ cF s.heap.size k0 a I0 J0 4 (by decide)) (csV_185 hts rfl rfl ⟨Nat.le_of_ble_eq_true rfl, Nat.le_of_ble_eq_true rfl⟩) (zPV2 (q0 := 0) (ci := 9) hPc hDc hK hXN rfl rfl) rfl rfl hl.1 rfl (lv_room (Nat.le_of_ble_eq_true rfl)) dX11_feature_44 ⟨Nat.le_of_ble_eq_true rfl, Nat.le_of_ble_eq_true rfl⟩) hS hFc hFc rfl (fun t H locs ht hB hk1 hS => ?_)
              obtain ⟨hP1, hD1⟩ := hB
              rw [ht] at hP1
              obtain ⟨hP, hD⟩ := zk (W2 := [(om k0 a (upd (upd I0 14 4) 15 (I0 15)) J0)]) hP hD [0] [] [] [0] [0] 1 rfl rfl rfl rfl rfl rfl rfl rfl rfl hk1 hFc hP1 hD1
              clear hk1 hPc hDc hFc hP1 hD1 ht
              obtain ⟨hP9, hD9⟩ := zq_sub (wc := [(om k0 a (upd (upd I0 14 4) 15 (I0 15)) J0)]) hP hD [0] rfl rfl
              rw [hQ9]
              exact W.iret (v := (-1)) hx hb hr (fun t ht hW => ⟨⟨rfl, by rw [ht]; exact hP9, hD9⟩, hS.F ht⟩) hS.2.2 dX11_feature_47
            · have c_6 : k3.toInt ≤ 100 := zc_nlt rfl rfl c_6
              refine lv_iload hx hb dX11_feature_30 (lv_at hl 4 rfl) ?_
              refine lv_if_lt (tgt := 42) hx hb dX11_feature_32 rfl (fun c_7 => ?_) (fun c_7 => ?_)
              · have c_7 : k4.toInt < 0 := zc_lt rfl rfl c_7
                refine lv_aload_n hx hb dX11_feature_42 rfl (lv_at hl 0 rfl) ?_
                refine lv_iconst (v := 4) hx hb dX11_feature_43 rfl ?_
                obtain ⟨hPc, hDc, hFc⟩ := zc_sub (wc := [(om k0 a I0 J0)]) hP hD hS hA [0] rfl rfl
                refine zcall (st1 := [.int (-1)]) (va_runV (As := [.int 4]) (rest := []) ⟨hx, hb, hml, hown, hts⟩ (k_M_refuse l dC dI cI cZ cF s.heap.size k0 a I0 J0 4 (by decide)) (csV_185 hts rfl rfl ⟨Nat.le_of_ble_eq_true rfl, Nat.le_of_ble_eq_true rfl⟩) (zPV2 (q0 := 0) (ci := 9) hPc hDc hK hXN rfl rfl) rfl rfl hl.1 rfl (lv_room (Nat.le_of_ble_eq_true rfl)) dX11_feature_44 ⟨Nat.le_of_ble_eq_true rfl, Nat.le_of_ble_eq_true rfl⟩) hS hFc hFc rfl (fun t H locs ht hB hk1 hS => ?_)
                obtain ⟨hP1, hD1⟩ := hB
                rw [ht] at hP1
                obtain ⟨hP, hD⟩ := zk (W2 := [(om k0 a (upd (upd I0 14 4) 15 (I0 15)) J0)]) hP hD [0] [] [] [0] [0] 1 rfl rfl rfl rfl rfl rfl rfl rfl rfl hk1 hFc hP1 hD1
                clear hk1 hPc hDc hFc hP1 hD1 ht
                obtain ⟨hP9, hD9⟩ := zq_sub (wc := [(om k0 a (upd (upd I0 14 4) 15 (I0 15)) J0)]) hP hD [0] rfl rfl
                rw [hQ9]
                exact W.iret (v := (-1)) hx hb hr (fun t ht hW => ⟨⟨rfl, by rw [ht]; exact hP9, hD9⟩, hS.F ht⟩) hS.2.2 dX11_feature_47
              · have c_7 : 0 ≤ k4.toInt := zc_nlt rfl rfl c_7
                refine lv_iload hx hb dX11_feature_35 (lv_at hl 4 rfl) ?_
                refine lv_bipush (v := 9) hx hb dX11_feature_37 rfl ?_
                refine lv_icmp_le (tgt := 48) hx hb dX11_feature_39 rfl (fun c_8 => ?_) (fun c_8 => ?_)
                · have c_8 : k4.toInt ≤ 9 := zc_le rfl rfl c_8
                  exfalso; omega
                · have c_8 : 9 < k4.toInt := zc_nle rfl rfl c_8
                  refine lv_aload_n hx hb dX11_feature_42 rfl (lv_at hl 0 rfl) ?_
                  refine lv_iconst (v := 4) hx hb dX11_feature_43 rfl ?_
                  obtain ⟨hPc, hDc, hFc⟩ := zc_sub (wc := [(om k0 a I0 J0)]) hP hD hS hA [0] rfl rfl
                  refine zcall (st1 := [.int (-1)]) (va_runV (As := [.int 4]) (rest := []) ⟨hx, hb, hml, hown, hts⟩ (k_M_refuse l dC dI cI cZ cF s.heap.size k0 a I0 J0 4 (by decide)) (csV_185 hts rfl rfl ⟨Nat.le_of_ble_eq_true rfl, Nat.le_of_ble_eq_true rfl⟩) (zPV2 (q0 := 0) (ci := 9) hPc hDc hK hXN rfl rfl) rfl rfl hl.1 rfl (lv_room (Nat.le_of_ble_eq_true rfl)) dX11_feature_44 ⟨Nat.le_of_ble_eq_true rfl, Nat.le_of_ble_eq_true rfl⟩) hS hFc hFc rfl (fun t H locs ht hB hk1 hS => ?_)
                  obtain ⟨hP1, hD1⟩ := hB
                  rw [ht] at hP1
                  obtain ⟨hP, hD⟩ := zk (W2 := [(om k0 a (upd (upd I0 14 4) 15 (I0 15)) J0)]) hP hD [0] [] [] [0] [0] 1 rfl rfl rfl rfl rfl rfl rfl rfl rfl hk1 hFc hP1 hD1
                  clear hk1 hPc hDc hFc hP1 hD1 ht
                  obtain ⟨hP9, hD9⟩ := zq_sub (wc := [(om k0 a (upd (upd I0 14 4) 15 (I0 15)) J0)]) hP hD [0] rfl rfl
                  rw [hQ9]
                  exact W.iret (v := (-1)) hx hb hr (fun t ht hW => ⟨⟨rfl, by rw [ht]; exact hP9, hD9⟩, hS.F ht⟩) hS.2.2 dX11_feature_47
set_option maxHeartbeats 4000000 in
set_option maxRecDepth 100000 in
theorem k_M_feature_8 (l : Launch) (dC : Nat → ClassId) (dI : Nat → Nat → Nat) (cI cZ cF : ClassId) (sz : Nat) (k0 : Nat) (a : Nat → Nat) (I0 : Nat → Int32) (J0 : Nat → Int64) (k1 : Int32) (k2 : Int32) (k3 : Int32) (k4 : Int32) (hgood : (0 ≤ k1.toInt ∧ k1.toInt ≤ 6 ∧ 0 ≤ k2.toInt ∧ k2.toInt ≤ 9) ∧ (0 ≤ k3.toInt ∧ k3.toInt ≤ 100 ∧ 0 ≤ k4.toInt ∧ k4.toInt ≤ 9)) (hfull : I0 0 = nI 200) : Met l yX11_feature (.code yX11_feature cX11_feature 6 (some .int) :: ws0) ({ frames := 1, cells := 0, slots := 0, locals := 21 } : Room) (va_Pc [.ref k0, .int k1, .int k2, .int k3, .int k4] (zPre (dC, dI) classes (zTy cI cZ cF) [(om k0 a I0 J0)] sz zXN)) (zQ (some (.int (-1))) (fun t => va_P (dC, dI) classes [(om k0 a (upd (upd I0 14 8) 15 (I0 15)) J0)] t.heap ∧ va_D (va_A [(om k0 a I0 J0)] sz) [(om k0 a (upd (upd I0 14 8) 15 (I0 15)) J0)]) (va_A [(om k0 a I0 J0)] sz)) 0 0 (va_A [(om k0 a I0 J0)] sz) := by
  refine Met.ofW (cc := cX11_feature) (maxL := 6) (ret := (some .int)) rfl rfl ?_
  intro p e s m args below meth c s₁ B hml hv
  obtain ⟨rfl, hsz, hP, hK, hD0, hXN⟩ := hv
  have hx := B.exec
  have hb := B.bytes
  have hr := B.returns
  have hts0 := atoms_spec (ws := .code yX11_feature cX11_feature 6 (some .int) :: ws0) B.pre
  have hts : ∀ w9 ∈ ws0, w9.before ([.ref k0, .int k1, .int k2, .int k3, .int k4] : List Value).toArray s = true := fun w9 h => hts0 w9 (List.mem_cons_of_mem _ h)
  have hown : s.vm.findClass "ScaleShopModel" = some m.cls := findClass_of_methodNamed B.named
  have hlocks := B.notSynchronized
  subst hsz
  have hD := hD0.self (sz := s.heap.size)
  clear hD0
  generalize hAe : va_A [(om k0 a I0 J0)] s.heap.size = A at hD ⊢
  have hA : ∀ q : Nat, s.heap.size ≤ q → A q := fun q h => by rw [← hAe]; exact Or.inr h
  clear hAe
  have hS : va_S A s.heap s.heap [] := va_S.rf
  have hP : va_P (dC, dI) classes [(om k0 a I0 J0)] s.heap := hP
  obtain ⟨Q9, hQ9⟩ : ∃ Q9 : State → Prop, Q9 = MQ below (zQ (some (.int (-1))) (fun t => va_P (dC, dI) classes [(om k0 a (upd (upd I0 14 8) 15 (I0 15)) J0)] t.heap ∧ va_D A [(om k0 a (upd (upd I0 14 8) 15 (I0 15)) J0)]) A) ([.ref k0, .int k1, .int k2, .int k3, .int k4] : List Value).toArray s 0 0 A := ⟨_, rfl⟩
  rw [← hQ9]
  have hl := lv_entry ([.ref k0, .int k1, .int k2, .int k3, .int k4]) (n := 6) (Nat.le_of_ble_eq_true rfl)
  rw [lg_entry_eq]
  generalize (lg_sl ([.ref k0, .int k1, .int k2, .int k3, .int k4]) ++ List.replicate (6 - (lg_sl ([.ref k0, .int k1, .int k2, .int k3, .int k4])).length) Slot.unset).toArray = ls at hl ⊢
  have hl : lv_has ls 6 [(0, .ref k0), (1, .int k1), (2, .int k2), (3, .int k3), (4, .int k4)] := hl
  refine lv_iload_n hx hb dX11_feature_0 rfl (lv_at hl 1 rfl) ?_
  refine lv_if_lt (tgt := 42) hx hb dX11_feature_1 rfl (fun c_1 => ?_) (fun c_1 => ?_)
  · have c_1 : k1.toInt < 0 := zc_lt rfl rfl c_1
    exfalso; omega
  · have c_1 : 0 ≤ k1.toInt := zc_nlt rfl rfl c_1
    refine lv_iload_n hx hb dX11_feature_4 rfl (lv_at hl 1 rfl) ?_
    refine lv_bipush (v := 6) hx hb dX11_feature_5 rfl ?_
    refine lv_icmp_gt (tgt := 42) hx hb dX11_feature_7 rfl (fun c_2 => ?_) (fun c_2 => ?_)
    · have c_2 : 6 < k1.toInt := zc_lt rfl rfl c_2
      exfalso; omega
    · have c_2 : k1.toInt ≤ 6 := zc_nlt rfl rfl c_2
      refine lv_iload_n hx hb dX11_feature_10 rfl (lv_at hl 2 rfl) ?_
      refine lv_if_lt (tgt := 42) hx hb dX11_feature_11 rfl (fun c_3 => ?_) (fun c_3 => ?_)
      · have c_3 : k2.toInt < 0 := zc_lt rfl rfl c_3
        exfalso; omega
      · have c_3 : 0 ≤ k2.toInt := zc_nlt rfl rfl c_3
        refine lv_iload_n hx hb dX11_feature_14 rfl (lv_at hl 2 rfl) ?_
        refine lv_bipush (v := 9) hx hb dX11_feature_15 rfl ?_
        refine lv_icmp_gt (tgt := 42) hx hb dX11_feature_17 rfl (fun c_4 => ?_) (fun c_4 => ?_)
        · have c_4 : 9 < k2.toInt := zc_lt rfl rfl c_4
          exfalso; omega
        · have c_4 : k2.toInt ≤ 9 := zc_nlt rfl rfl c_4
          refine lv_iload_n hx hb dX11_feature_20 rfl (lv_at hl 3 rfl) ?_
          refine lv_if_lt (tgt := 42) hx hb dX11_feature_21 rfl (fun c_5 => ?_) (fun c_5 => ?_)
          · have c_5 : k3.toInt < 0 := zc_lt rfl rfl c_5
            exfalso; omega
          · have c_5 : 0 ≤ k3.toInt := zc_nlt rfl rfl c_5
            refine lv_iload_n hx hb dX11_feature_24 rfl (lv_at hl 3 rfl) ?_
            refine lv_bipush (v := 100) hx hb dX11_feature_25 rfl ?_
            refine lv_icmp_gt (tgt := 42) hx hb dX11_feature_27 rfl (fun c_6 => ?_) (fun c_6 => ?_)
            · have c_6 : 100 < k3.toInt := zc_lt rfl rfl c_6
              exfalso; omega
            · have c_6 : k3.toInt ≤ 100 := zc_nlt rfl rfl c_6
              refine lv_iload hx hb dX11_feature_30 (lv_at hl 4 rfl) ?_
              refine lv_if_lt (tgt := 42) hx hb dX11_feature_32 rfl (fun c_7 => ?_) (fun c_7 => ?_)
              · have c_7 : k4.toInt < 0 := zc_lt rfl rfl c_7
                exfalso; omega
              · have c_7 : 0 ≤ k4.toInt := zc_nlt rfl rfl c_7
                refine lv_iload hx hb dX11_feature_35 (lv_at hl 4 rfl) ?_
                refine lv_bipush (v := 9) hx hb dX11_feature_37 rfl ?_
                refine lv_icmp_le (tgt := 48) hx hb dX11_feature_39 rfl (fun c_8 => ?_) (fun c_8 => ?_)
                · have c_8 : k4.toInt ≤ 9 := zc_le rfl rfl c_8
                  refine lv_aload_n hx hb dX11_feature_48 rfl (lv_at hl 0 rfl) ?_
                  refine va_get (D := (dC, dI)) (ci := 9) (v := .int (I0 0)) (C := RX11) (T := TX11) (N := 55) hx hb hts inX11 hown hK hP 0 rfl rfl 0 (Nat.le_of_ble_eq_true rfl) (hts _ mw_1159) (fun _ h9 => h9) rfl dX11_feature_49 ?_
                  refine zz_i (v := nI 200) (hfull) ?_
                  refine lv_sipush (v := 200) hx hb dX11_feature_52 rfl ?_
                  refine lv_icmp_ne (tgt := 65) hx hb dX11_feature_55 rfl (fun c_9 => ?_) (fun c_9 => ?_)
                  · have c_9 : ¬ ((200 : Nat) : Int) = 200 := zc_ne (nI_toInt (by omega)) rfl c_9
                    exfalso; omega
                  · have c_9 : ((200 : Nat) : Int) = 200 := zc_eq (nI_toInt (by omega)) rfl c_9
                    refine lv_aload_n hx hb dX11_feature_58 rfl (lv_at hl 0 rfl) ?_
                    refine lv_bipush (v := 8) hx hb dX11_feature_59 rfl ?_
                    obtain ⟨hPc, hDc, hFc⟩ := zc_sub (wc := [(om k0 a I0 J0)]) hP hD hS hA [0] rfl rfl
                    refine zcall (st1 := [.int (-1)]) (va_runV (As := [.int 8]) (rest := []) ⟨hx, hb, hml, hown, hts⟩ (k_M_refuse l dC dI cI cZ cF s.heap.size k0 a I0 J0 8 (by decide)) (csV_185 hts rfl rfl ⟨Nat.le_of_ble_eq_true rfl, Nat.le_of_ble_eq_true rfl⟩) (zPV2 (q0 := 0) (ci := 9) hPc hDc hK hXN rfl rfl) rfl rfl hl.1 rfl (lv_room (Nat.le_of_ble_eq_true rfl)) dX11_feature_61 ⟨Nat.le_of_ble_eq_true rfl, Nat.le_of_ble_eq_true rfl⟩) hS hFc hFc rfl (fun t H locs ht hB hk1 hS => ?_)
                    obtain ⟨hP1, hD1⟩ := hB
                    rw [ht] at hP1
                    obtain ⟨hP, hD⟩ := zk (W2 := [(om k0 a (upd (upd I0 14 8) 15 (I0 15)) J0)]) hP hD [0] [] [] [0] [0] 1 rfl rfl rfl rfl rfl rfl rfl rfl rfl hk1 hFc hP1 hD1
                    clear hk1 hPc hDc hFc hP1 hD1 ht
                    obtain ⟨hP9, hD9⟩ := zq_sub (wc := [(om k0 a (upd (upd I0 14 8) 15 (I0 15)) J0)]) hP hD [0] rfl rfl
                    rw [hQ9]
                    exact W.iret (v := (-1)) hx hb hr (fun t ht hW => ⟨⟨rfl, by rw [ht]; exact hP9, hD9⟩, hS.F ht⟩) hS.2.2 dX11_feature_64
                · have c_8 : 9 < k4.toInt := zc_nle rfl rfl c_8
                  exfalso; omega
set_option maxHeartbeats 4000000 in
set_option maxRecDepth 100000 in
theorem k_M_feature_ok (l : Launch) (dC : Nat → ClassId) (dI : Nat → Nat → Nat) (cI cZ cF : ClassId) (sz : Nat) (k0 : Nat) (a : Nat → Nat) (I0 : Nat → Int32) (J0 : Nat → Int64) (k1 : Int32) (k2 : Int32) (k3 : Int32) (k4 : Int32) (ft : Nat) (kd : Nat → Int32) (rk : Nat → Int32) (wd : Nat → Int32) (tw : Nat → Int32) (st : Nat → Int32) (tn : Nat → Int32) (gb : Nat → Int32) (pa : Nat → Int32) (pb : Nat → Int32) (it : Nat → Int32) (mn : Nat → Int32) (sa : Nat → Int32) (hgood : (0 ≤ k1.toInt ∧ k1.toInt ≤ 6 ∧ 0 ≤ k2.toInt ∧ k2.toInt ≤ 9) ∧ (0 ≤ k3.toInt ∧ k3.toInt ≤ 100 ∧ 0 ≤ k4.toInt ∧ k4.toInt ≤ 9)) (hft : I0 0 = nI ft) (h200 : ft < 200) : Met l yX11_feature (.code yX11_feature cX11_feature 6 (some .int) :: ws0) ({ frames := 1, cells := 0, slots := 0, locals := 25 } : Room) (va_Pc [.ref k0, .int k1, .int k2, .int k3, .int k4] (zPre (dC, dI) classes (zTy cI cZ cF) [(om k0 a I0 J0), (oa (a 1) cI 201 kd), (oa (a 2) cI 201 rk), (oa (a 3) cI 201 wd), (oa (a 4) cI 201 tw), (oa (a 5) cI 201 st), (oa (a 6) cZ 201 tn), (oa (a 7) cI 201 gb), (oa (a 8) cI 201 pa), (oa (a 9) cI 201 pb), (oa (a 10) cI 201 it), (oa (a 11) cI 201 mn), (oa (a 27) cI 516 sa)] sz zXN)) (zQ (some (.int (nI ft))) (fun t => va_P (dC, dI) classes [(om k0 a (upd (upd (upd (upd I0 0 (nI (ft + 1))) 14 0) 20 0) 21 (I0 19)) J0), (oa (a 1) cI 201 (upd kd ft k1)), (oa (a 2) cI 201 (upd rk ft k2)), (oa (a 3) cI 201 (upd wd ft k3)), (oa (a 4) cI 201 (upd tw ft k4)), (oa (a 5) cI 201 (upd st ft 0)), (oa (a 6) cZ 201 (upd tn ft 0)), (oa (a 7) cI 201 (upd gb ft 0)), (oa (a 8) cI 201 (upd pa ft (-1))), (oa (a 9) cI 201 (upd pb ft (-1))), (oa (a 10) cI 201 (upd it ft (-1))), (oa (a 11) cI 201 (upd mn ft 0)), (oa (a 27) cI 516 (upd sa 0 0))] t.heap ∧ va_D (va_A [(om k0 a I0 J0), (oa (a 1) cI 201 kd), (oa (a 2) cI 201 rk), (oa (a 3) cI 201 wd), (oa (a 4) cI 201 tw), (oa (a 5) cI 201 st), (oa (a 6) cZ 201 tn), (oa (a 7) cI 201 gb), (oa (a 8) cI 201 pa), (oa (a 9) cI 201 pb), (oa (a 10) cI 201 it), (oa (a 11) cI 201 mn), (oa (a 27) cI 516 sa)] sz) [(om k0 a (upd (upd (upd (upd I0 0 (nI (ft + 1))) 14 0) 20 0) 21 (I0 19)) J0), (oa (a 1) cI 201 (upd kd ft k1)), (oa (a 2) cI 201 (upd rk ft k2)), (oa (a 3) cI 201 (upd wd ft k3)), (oa (a 4) cI 201 (upd tw ft k4)), (oa (a 5) cI 201 (upd st ft 0)), (oa (a 6) cZ 201 (upd tn ft 0)), (oa (a 7) cI 201 (upd gb ft 0)), (oa (a 8) cI 201 (upd pa ft (-1))), (oa (a 9) cI 201 (upd pb ft (-1))), (oa (a 10) cI 201 (upd it ft (-1))), (oa (a 11) cI 201 (upd mn ft 0)), (oa (a 27) cI 516 (upd sa 0 0))]) (va_A [(om k0 a I0 J0), (oa (a 1) cI 201 kd), (oa (a 2) cI 201 rk), (oa (a 3) cI 201 wd), (oa (a 4) cI 201 tw), (oa (a 5) cI 201 st), (oa (a 6) cZ 201 tn), (oa (a 7) cI 201 gb), (oa (a 8) cI 201 pa), (oa (a 9) cI 201 pb), (oa (a 10) cI 201 it), (oa (a 11) cI 201 mn), (oa (a 27) cI 516 sa)] sz)) 0 0 (va_A [(om k0 a I0 J0), (oa (a 1) cI 201 kd), (oa (a 2) cI 201 rk), (oa (a 3) cI 201 wd), (oa (a 4) cI 201 tw), (oa (a 5) cI 201 st), (oa (a 6) cZ 201 tn), (oa (a 7) cI 201 gb), (oa (a 8) cI 201 pa), (oa (a 9) cI 201 pb), (oa (a 10) cI 201 it), (oa (a 11) cI 201 mn), (oa (a 27) cI 516 sa)] sz) := by
  refine Met.ofW (cc := cX11_feature) (maxL := 6) (ret := (some .int)) rfl rfl ?_
  intro p e s m args below meth c s₁ B hml hv
  obtain ⟨rfl, hsz, hP, hK, hD0, hXN⟩ := hv
  have hx := B.exec
  have hb := B.bytes
  have hr := B.returns
  have hts0 := atoms_spec (ws := .code yX11_feature cX11_feature 6 (some .int) :: ws0) B.pre
  have hts : ∀ w9 ∈ ws0, w9.before ([.ref k0, .int k1, .int k2, .int k3, .int k4] : List Value).toArray s = true := fun w9 h => hts0 w9 (List.mem_cons_of_mem _ h)
  have hown : s.vm.findClass "ScaleShopModel" = some m.cls := findClass_of_methodNamed B.named
  have hlocks := B.notSynchronized
  subst hsz
  have hD := hD0.self (sz := s.heap.size)
  clear hD0
  generalize hAe : va_A [(om k0 a I0 J0), (oa (a 1) cI 201 kd), (oa (a 2) cI 201 rk), (oa (a 3) cI 201 wd), (oa (a 4) cI 201 tw), (oa (a 5) cI 201 st), (oa (a 6) cZ 201 tn), (oa (a 7) cI 201 gb), (oa (a 8) cI 201 pa), (oa (a 9) cI 201 pb), (oa (a 10) cI 201 it), (oa (a 11) cI 201 mn), (oa (a 27) cI 516 sa)] s.heap.size = A at hD ⊢
  have hA : ∀ q : Nat, s.heap.size ≤ q → A q := fun q h => by rw [← hAe]; exact Or.inr h
  clear hAe
  have hS : va_S A s.heap s.heap [] := va_S.rf
  have hP : va_P (dC, dI) classes [(om k0 a I0 J0), (oa (a 1) cI 201 kd), (oa (a 2) cI 201 rk), (oa (a 3) cI 201 wd), (oa (a 4) cI 201 tw), (oa (a 5) cI 201 st), (oa (a 6) cZ 201 tn), (oa (a 7) cI 201 gb), (oa (a 8) cI 201 pa), (oa (a 9) cI 201 pb), (oa (a 10) cI 201 it), (oa (a 11) cI 201 mn), (oa (a 27) cI 516 sa)] s.heap := hP
  obtain ⟨Q9, hQ9⟩ : ∃ Q9 : State → Prop, Q9 = MQ below (zQ (some (.int (nI ft))) (fun t => va_P (dC, dI) classes [(om k0 a (upd (upd (upd (upd I0 0 (nI (ft + 1))) 14 0) 20 0) 21 (I0 19)) J0), (oa (a 1) cI 201 (upd kd ft k1)), (oa (a 2) cI 201 (upd rk ft k2)), (oa (a 3) cI 201 (upd wd ft k3)), (oa (a 4) cI 201 (upd tw ft k4)), (oa (a 5) cI 201 (upd st ft 0)), (oa (a 6) cZ 201 (upd tn ft 0)), (oa (a 7) cI 201 (upd gb ft 0)), (oa (a 8) cI 201 (upd pa ft (-1))), (oa (a 9) cI 201 (upd pb ft (-1))), (oa (a 10) cI 201 (upd it ft (-1))), (oa (a 11) cI 201 (upd mn ft 0)), (oa (a 27) cI 516 (upd sa 0 0))] t.heap ∧ va_D A [(om k0 a (upd (upd (upd (upd I0 0 (nI (ft + 1))) 14 0) 20 0) 21 (I0 19)) J0), (oa (a 1) cI 201 (upd kd ft k1)), (oa (a 2) cI 201 (upd rk ft k2)), (oa (a 3) cI 201 (upd wd ft k3)), (oa (a 4) cI 201 (upd tw ft k4)), (oa (a 5) cI 201 (upd st ft 0)), (oa (a 6) cZ 201 (upd tn ft 0)), (oa (a 7) cI 201 (upd gb ft 0)), (oa (a 8) cI 201 (upd pa ft (-1))), (oa (a 9) cI 201 (upd pb ft (-1))), (oa (a 10) cI 201 (upd it ft (-1))), (oa (a 11) cI 201 (upd mn ft 0)), (oa (a 27) cI 516 (upd sa 0 0))]) A) ([.ref k0, .int k1, .int k2, .int k3, .int k4] : List Value).toArray s 0 0 A := ⟨_, rfl⟩
  rw [← hQ9]
  have hl := lv_entry ([.ref k0, .int k1, .int k2, .int k3, .int k4]) (n := 6) (Nat.le_of_ble_eq_true rfl)
  rw [lg_entry_eq]
  generalize (lg_sl ([.ref k0, .int k1, .int k2, .int k3, .int k4]) ++ List.replicate (6 - (lg_sl ([.ref k0, .int k1, .int k2, .int k3, .int k4])).length) Slot.unset).toArray = ls at hl ⊢
  have hl : lv_has ls 6 [(0, .ref k0), (1, .int k1), (2, .int k2), (3, .int k3), (4, .int k4)] := hl
  refine lv_iload_n hx hb dX11_feature_0 rfl (lv_at hl 1 rfl) ?_
  refine lv_if_lt (tgt := 42) hx hb dX11_feature_1 rfl (fun c_1 => ?_) (fun c_1 => ?_)
  · have c_1 : k1.toInt < 0 := zc_lt rfl rfl c_1
    exfalso; omega
  · have c_1 : 0 ≤ k1.toInt := zc_nlt rfl rfl c_1
    refine lv_iload_n hx hb dX11_feature_4 rfl (lv_at hl 1 rfl) ?_
    refine lv_bipush (v := 6) hx hb dX11_feature_5 rfl ?_
    refine lv_icmp_gt (tgt := 42) hx hb dX11_feature_7 rfl (fun c_2 => ?_) (fun c_2 => ?_)
    · have c_2 : 6 < k1.toInt := zc_lt rfl rfl c_2
      exfalso; omega
    · have c_2 : k1.toInt ≤ 6 := zc_nlt rfl rfl c_2
      refine lv_iload_n hx hb dX11_feature_10 rfl (lv_at hl 2 rfl) ?_
      refine lv_if_lt (tgt := 42) hx hb dX11_feature_11 rfl (fun c_3 => ?_) (fun c_3 => ?_)
      · have c_3 : k2.toInt < 0 := zc_lt rfl rfl c_3
        exfalso; omega
      · have c_3 : 0 ≤ k2.toInt := zc_nlt rfl rfl c_3
        refine lv_iload_n hx hb dX11_feature_14 rfl (lv_at hl 2 rfl) ?_
        refine lv_bipush (v := 9) hx hb dX11_feature_15 rfl ?_
        refine lv_icmp_gt (tgt := 42) hx hb dX11_feature_17 rfl (fun c_4 => ?_) (fun c_4 => ?_)
        · have c_4 : 9 < k2.toInt := zc_lt rfl rfl c_4
          exfalso; omega
        · have c_4 : k2.toInt ≤ 9 := zc_nlt rfl rfl c_4
          refine lv_iload_n hx hb dX11_feature_20 rfl (lv_at hl 3 rfl) ?_
          refine lv_if_lt (tgt := 42) hx hb dX11_feature_21 rfl (fun c_5 => ?_) (fun c_5 => ?_)
          · have c_5 : k3.toInt < 0 := zc_lt rfl rfl c_5
            exfalso; omega
          · have c_5 : 0 ≤ k3.toInt := zc_nlt rfl rfl c_5
            refine lv_iload_n hx hb dX11_feature_24 rfl (lv_at hl 3 rfl) ?_
            refine lv_bipush (v := 100) hx hb dX11_feature_25 rfl ?_
            refine lv_icmp_gt (tgt := 42) hx hb dX11_feature_27 rfl (fun c_6 => ?_) (fun c_6 => ?_)
            · have c_6 : 100 < k3.toInt := zc_lt rfl rfl c_6
              exfalso; omega
            · have c_6 : k3.toInt ≤ 100 := zc_nlt rfl rfl c_6
              refine lv_iload hx hb dX11_feature_30 (lv_at hl 4 rfl) ?_
              refine lv_if_lt (tgt := 42) hx hb dX11_feature_32 rfl (fun c_7 => ?_) (fun c_7 => ?_)
              · have c_7 : k4.toInt < 0 := zc_lt rfl rfl c_7
                exfalso; omega
              · have c_7 : 0 ≤ k4.toInt := zc_nlt rfl rfl c_7
                refine lv_iload hx hb dX11_feature_35 (lv_at hl 4 rfl) ?_
                refine lv_bipush (v := 9) hx hb dX11_feature_37 rfl ?_
                refine lv_icmp_le (tgt := 48) hx hb dX11_feature_39 rfl (fun c_8 => ?_) (fun c_8 => ?_)
                · have c_8 : k4.toInt ≤ 9 := zc_le rfl rfl c_8
                  refine lv_aload_n hx hb dX11_feature_48 rfl (lv_at hl 0 rfl) ?_
                  refine va_get (D := (dC, dI)) (ci := 9) (v := .int (I0 0)) (C := RX11) (T := TX11) (N := 55) hx hb hts inX11 hown hK hP 0 rfl rfl 0 (Nat.le_of_ble_eq_true rfl) (hts _ mw_1159) (fun _ h9 => h9) rfl dX11_feature_49 ?_
                  refine zz_i (v := nI ft) (hft) ?_
                  refine lv_sipush (v := 200) hx hb dX11_feature_52 rfl ?_
                  have b9_10 : ft < 2147483648 := by omega
                  refine lv_icmp_ne (tgt := 65) hx hb dX11_feature_55 rfl (fun c_9 => ?_) (fun c_9 => ?_)
                  · have c_9 : ¬ ((ft : Nat) : Int) = 200 := zc_ne (nI_toInt b9_10) rfl c_9
                    refine lv_aload_n hx hb dX11_feature_65 rfl (lv_at hl 0 rfl) ?_
                    refine va_get (D := (dC, dI)) (ci := 9) (v := .int (I0 0)) (C := RX11) (T := TX11) (N := 55) hx hb hts inX11 hown hK hP 0 rfl rfl 0 (Nat.le_of_ble_eq_true rfl) (hts _ mw_1159) (fun _ h9 => h9) rfl dX11_feature_66 ?_
                    refine zz_i (v := nI ft) (hft) ?_
                    refine lv_istore (lv' := [(5, .int (nI ft)), (0, .ref k0), (1, .int k1), (2, .int k2), (3, .int k3), (4, .int k4)]) hx hb dX11_feature_69 hl (Nat.le_of_ble_eq_true rfl) rfl (fun ls hl => ?_)
                    refine lv_aload_n hx hb dX11_feature_71 rfl (lv_at hl 1 rfl) ?_
                    refine lv_iload hx hb dX11_feature_72 (lv_at hl 0 rfl) ?_
                    refine lv_iload_n hx hb dX11_feature_74 rfl (lv_at hl 2 rfl) ?_
                    refine lv_iload_n hx hb dX11_feature_75 rfl (lv_at hl 3 rfl) ?_
                    refine lv_iload_n hx hb dX11_feature_76 rfl (lv_at hl 4 rfl) ?_
                    refine lv_iload hx hb dX11_feature_77 (lv_at hl 5 rfl) ?_
                    obtain ⟨hPc, hDc, hFc⟩ := zc_sub (wc := [(om k0 a I0 J0), (oa (a 1) cI 201 kd), (oa (a 2) cI 201 rk), (oa (a 3) cI 201 wd), (oa (a 4) cI 201 tw), (oa (a 5) cI 201 st), (oa (a 6) cZ 201 tn), (oa (a 7) cI 201 gb), (oa (a 8) cI 201 pa), (oa (a 9) cI 201 pb), (oa (a 10) cI 201 it), (oa (a 11) cI 201 mn)]) hP hD hS hA [0, 1, 2, 3, 4, 5, 6, 7, 8, 9, 10, 11] rfl rfl
                    refine zcall (st1 := []) (va_runV (As := [.int (nI ft), .int k1, .int k2, .int k3, .int k4]) (rest := []) ⟨hx, hb, hml, hown, hts⟩ (k_M_begin l dC dI cI cZ cF s.heap.size k0 a I0 J0 ft k1 k2 k3 k4 kd rk wd tw st tn gb pa pb it mn (by first | with_reducible assumption | omega)) (csV_196 hts rfl rfl ⟨Nat.le_of_ble_eq_true rfl, Nat.le_of_ble_eq_true rfl⟩) (zPV2 (q0 := 0) (ci := 9) hPc hDc hK hXN rfl rfl) rfl rfl hl.1 rfl (lv_room (Nat.le_of_ble_eq_true rfl)) dX11_feature_79 ⟨Nat.le_of_ble_eq_true rfl, Nat.le_of_ble_eq_true rfl⟩) hS hFc hFc rfl (fun t H locs ht hB hk1 hS => ?_)
                    obtain ⟨hP1, hD1⟩ := hB
                    rw [ht] at hP1
                    obtain ⟨hP, hD⟩ := zk (W2 := [(om k0 a (upd I0 0 (nI (ft + 1))) J0), (oa (a 1) cI 201 (upd kd ft k1)), (oa (a 2) cI 201 (upd rk ft k2)), (oa (a 3) cI 201 (upd wd ft k3)), (oa (a 4) cI 201 (upd tw ft k4)), (oa (a 5) cI 201 (upd st ft 0)), (oa (a 6) cZ 201 (upd tn ft 0)), (oa (a 7) cI 201 (upd gb ft 0)), (oa (a 8) cI 201 (upd pa ft (-1))), (oa (a 9) cI 201 (upd pb ft (-1))), (oa (a 10) cI 201 (upd it ft (-1))), (oa (a 11) cI 201 (upd mn ft 0)), (oa (a 27) cI 516 sa)]) hP hD [0, 1, 2, 3, 4, 5, 6, 7, 8, 9, 10, 11] [12] [12] [0, 1, 2, 3, 4, 5, 6, 7, 8, 9, 10, 11] [1, 2, 3, 4, 5, 6, 7, 8, 9, 10, 11, 12, 0] 13 rfl rfl rfl rfl rfl rfl rfl rfl rfl hk1 hFc hP1 hD1
                    clear hk1 hPc hDc hFc hP1 hD1 ht
                    refine lv_aload_n hx hb dX11_feature_82 rfl (lv_at hl 1 rfl) ?_
                    obtain ⟨hPc, hDc, hFc⟩ := zc_sub (wc := [(om k0 a (upd I0 0 (nI (ft + 1))) J0), (oa (a 27) cI 516 sa)]) hP hD hS hA [0, 12] rfl rfl
                    refine zcall (st1 := []) (va_runV (As := []) (rest := []) ⟨hx, hb, hml, hown, hts⟩ (k_M_settle l dC dI cI cZ cF H.size k0 a (upd I0 0 (nI (ft + 1))) J0 sa ) (csV_197 hts rfl rfl ⟨Nat.le_of_ble_eq_true rfl, Nat.le_of_ble_eq_true rfl⟩) (zPV2 (q0 := 0) (ci := 9) hPc hDc hK hXN rfl rfl) rfl rfl hl.1 rfl (lv_room (Nat.le_of_ble_eq_true rfl)) dX11_feature_83 ⟨Nat.le_of_ble_eq_true rfl, Nat.le_of_ble_eq_true rfl⟩) hS hFc hFc rfl (fun t H locs ht hB hk1 hS => ?_)
                    obtain ⟨hP1, hD1⟩ := hB
                    rw [ht] at hP1
                    obtain ⟨hP, hD⟩ := zk (W2 := [(om k0 a (upd (upd (upd I0 0 (nI (ft + 1))) 20 0) 21 (I0 19)) J0), (oa (a 1) cI 201 (upd kd ft k1)), (oa (a 2) cI 201 (upd rk ft k2)), (oa (a 3) cI 201 (upd wd ft k3)), (oa (a 4) cI 201 (upd tw ft k4)), (oa (a 5) cI 201 (upd st ft 0)), (oa (a 6) cZ 201 (upd tn ft 0)), (oa (a 7) cI 201 (upd gb ft 0)), (oa (a 8) cI 201 (upd pa ft (-1))), (oa (a 9) cI 201 (upd pb ft (-1))), (oa (a 10) cI 201 (upd it ft (-1))), (oa (a 11) cI 201 (upd mn ft 0)), (oa (a 27) cI 516 (upd sa 0 0))]) hP hD [0, 12] [1, 2, 3, 4, 5, 6, 7, 8, 9, 10, 11] [1, 2, 3, 4, 5, 6, 7, 8, 9, 10, 11] [0, 12] [11, 0, 1, 2, 3, 4, 5, 6, 7, 8, 9, 10, 12] 13 rfl rfl rfl rfl rfl rfl rfl rfl rfl hk1 hFc hP1 hD1
                    clear hk1 hPc hDc hFc hP1 hD1 ht
                    refine lv_aload_n hx hb dX11_feature_86 rfl (lv_at hl 1 rfl) ?_
                    refine lv_iconst (v := 0) hx hb dX11_feature_87 rfl ?_
                    refine va_put (D := (dC, dI)) (ci := 9) (v := .int 0) (ty := .int) (C := RX11) (T := TX11) (N := 55) hx hb hts inX11 tyX11 tyX11_ok nmX11 hown hK hP hD hS 0 rfl rfl 14 (by decide) (hts _ mw_1173) (fun _ h9 => h9) rfl (by decide +kernel) rfl rfl (Nat.le_of_ble_eq_true rfl) dX11_feature_88 (fun H locs hP hD hS => ?_)
                    obtain ⟨hP, hD⟩ : zPD (dC, dI) classes A [(om k0 a (upd (upd (upd (upd I0 0 (nI (ft + 1))) 14 0) 20 0) 21 (I0 19)) J0), (oa (a 1) cI 201 (upd kd ft k1)), (oa (a 2) cI 201 (upd rk ft k2)), (oa (a 3) cI 201 (upd wd ft k3)), (oa (a 4) cI 201 (upd tw ft k4)), (oa (a 5) cI 201 (upd st ft 0)), (oa (a 6) cZ 201 (upd tn ft 0)), (oa (a 7) cI 201 (upd gb ft 0)), (oa (a 8) cI 201 (upd pa ft (-1))), (oa (a 9) cI 201 (upd pb ft (-1))), (oa (a 10) cI 201 (upd it ft (-1))), (oa (a 11) cI 201 (upd mn ft 0)), (oa (a 27) cI 516 (upd sa 0 0))] H := ⟨hP, hD⟩
                    refine lv_iload hx hb dX11_feature_91 (lv_at hl 0 rfl) ?_
                    obtain ⟨hP9, hD9⟩ := zq_sub (wc := [(om k0 a (upd (upd (upd (upd I0 0 (nI (ft + 1))) 14 0) 20 0) 21 (I0 19)) J0), (oa (a 1) cI 201 (upd kd ft k1)), (oa (a 2) cI 201 (upd rk ft k2)), (oa (a 3) cI 201 (upd wd ft k3)), (oa (a 4) cI 201 (upd tw ft k4)), (oa (a 5) cI 201 (upd st ft 0)), (oa (a 6) cZ 201 (upd tn ft 0)), (oa (a 7) cI 201 (upd gb ft 0)), (oa (a 8) cI 201 (upd pa ft (-1))), (oa (a 9) cI 201 (upd pb ft (-1))), (oa (a 10) cI 201 (upd it ft (-1))), (oa (a 11) cI 201 (upd mn ft 0)), (oa (a 27) cI 516 (upd sa 0 0))]) hP hD [0, 1, 2, 3, 4, 5, 6, 7, 8, 9, 10, 11, 12] rfl rfl
                    rw [hQ9]
                    exact W.iret (v := nI ft) hx hb hr (fun t ht hW => ⟨⟨rfl, by rw [ht]; exact hP9, hD9⟩, hS.F ht⟩) hS.2.2 dX11_feature_93
                  · have c_9 : ((ft : Nat) : Int) = 200 := zc_eq (nI_toInt b9_10) rfl c_9
                    exfalso; omega
                · have c_8 : 9 < k4.toInt := zc_nle rfl rfl c_8
                  exfalso; omega
set_option maxHeartbeats 4000000 in
set_option maxRecDepth 100000 in
theorem k_M_corner_x (l : Launch) (dC : Nat → ClassId) (dI : Nat → Nat → Nat) (cI cZ cF : ClassId) (sz : Nat) (k0 : Nat) (a : Nat → Nat) (I0 : Nat → Int32) (J0 : Nat → Int64) (ft : Nat) (v : Int32) (px : Int32) (py : Int32) (hft : I0 0 = nI ft) (h200 : ft ≤ 200) (hv : ¬ (0 ≤ v.toInt ∧ v.toInt < (ft : Int))) : Met l yX11_corner (.code yX11_corner cX11_corner 4 (some .int) :: ws0) ({ frames := 1, cells := 0, slots := 0, locals := 21 } : Room) (va_Pc [.ref k0, .int v, .int px, .int py] (zPre (dC, dI) classes (zTy cI cZ cF) [(om k0 a I0 J0)] sz zXN)) (zQ (some (.int (-1))) (fun t => va_P (dC, dI) classes [(om k0 a (upd (upd I0 14 1) 15 (I0 15)) J0)] t.heap ∧ va_D (va_A [(om k0 a I0 J0)] sz) [(om k0 a (upd (upd I0 14 1) 15 (I0 15)) J0)]) (va_A [(om k0 a I0 J0)] sz)) 0 0 (va_A [(om k0 a I0 J0)] sz) := by
  refine Met.ofW (cc := cX11_corner) (maxL := 4) (ret := (some .int)) rfl rfl ?_
  intro p e s m args below meth c s₁ B hml hv
  obtain ⟨rfl, hsz, hP, hK, hD0, hXN⟩ := hv
  have hx := B.exec
  have hb := B.bytes
  have hr := B.returns
  have hts0 := atoms_spec (ws := .code yX11_corner cX11_corner 4 (some .int) :: ws0) B.pre
  have hts : ∀ w9 ∈ ws0, w9.before ([.ref k0, .int v, .int px, .int py] : List Value).toArray s = true := fun w9 h => hts0 w9 (List.mem_cons_of_mem _ h)
  have hown : s.vm.findClass "ScaleShopModel" = some m.cls := findClass_of_methodNamed B.named
  have hlocks := B.notSynchronized
  subst hsz
  have hD := hD0.self (sz := s.heap.size)
  clear hD0
  generalize hAe : va_A [(om k0 a I0 J0)] s.heap.size = A at hD ⊢
  have hA : ∀ q : Nat, s.heap.size ≤ q → A q := fun q h => by rw [← hAe]; exact Or.inr h
  clear hAe
  have hS : va_S A s.heap s.heap [] := va_S.rf
  have hP : va_P (dC, dI) classes [(om k0 a I0 J0)] s.heap := hP
  obtain ⟨Q9, hQ9⟩ : ∃ Q9 : State → Prop, Q9 = MQ below (zQ (some (.int (-1))) (fun t => va_P (dC, dI) classes [(om k0 a (upd (upd I0 14 1) 15 (I0 15)) J0)] t.heap ∧ va_D A [(om k0 a (upd (upd I0 14 1) 15 (I0 15)) J0)]) A) ([.ref k0, .int v, .int px, .int py] : List Value).toArray s 0 0 A := ⟨_, rfl⟩
  rw [← hQ9]
  have hl := lv_entry ([.ref k0, .int v, .int px, .int py]) (n := 4) (Nat.le_of_ble_eq_true rfl)
  rw [lg_entry_eq]
  generalize (lg_sl ([.ref k0, .int v, .int px, .int py]) ++ List.replicate (4 - (lg_sl ([.ref k0, .int v, .int px, .int py])).length) Slot.unset).toArray = ls at hl ⊢
  have hl : lv_has ls 4 [(0, .ref k0), (1, .int v), (2, .int px), (3, .int py)] := hl
  refine lv_aload_n hx hb dX11_corner_0 rfl (lv_at hl 0 rfl) ?_
  refine lv_iload_n hx hb dX11_corner_1 rfl (lv_at hl 1 rfl) ?_
  obtain ⟨hPc, hDc, hFc⟩ := zc_sub (wc := [(om k0 a I0 J0)]) hP hD hS hA [0] rfl rfl
  refine zcall (st1 := [.int (pI (0 ≤ v.toInt ∧ v.toInt < (ft : Int)))]) (va_runV (As := [.int v]) (rest := []) ⟨hx, hb, hml, hown, hts⟩ (k_M_isFeature l dC dI cI cZ cF s.heap.size k0 a I0 J0 ft v (by first | with_reducible assumption | assumption) (by first | with_reducible assumption | omega)) (csV_178 hts rfl rfl ⟨Nat.le_of_ble_eq_true rfl, Nat.le_of_ble_eq_true rfl⟩) (zPV2 (q0 := 0) (ci := 9) hPc hDc hK hXN rfl rfl) rfl rfl hl.1 rfl (lv_room (Nat.le_of_ble_eq_true rfl)) dX11_corner_2 ⟨Nat.le_of_ble_eq_true rfl, Nat.le_of_ble_eq_true rfl⟩) hS hFc hFc rfl (fun t H locs ht hB hk1 hS => ?_)
  obtain ⟨hP1, hD1⟩ := hB
  rw [ht] at hP1
  obtain ⟨hP, hD⟩ := zk (W2 := [(om k0 a I0 J0)]) hP hD [0] [] [] [0] [0] 1 rfl rfl rfl rfl rfl rfl rfl rfl rfl hk1 hFc hP1 hD1
  clear hk1 hPc hDc hFc hP1 hD1 ht
  refine lv_if_ne (tgt := 14) hx hb dX11_corner_5 rfl (fun c_1 => ?_) (fun c_1 => ?_)
  · have c_1 : 0 ≤ v.toInt ∧ v.toInt < (ft : Int) := zp_1 c_1
    exfalso; exact absurd (by first | with_reducible assumption | assumption) hv
  · have c_1 : ¬ (0 ≤ v.toInt ∧ v.toInt < (ft : Int)) := zp_0 c_1
    refine lv_aload_n hx hb dX11_corner_8 rfl (lv_at hl 0 rfl) ?_
    refine lv_iconst (v := 1) hx hb dX11_corner_9 rfl ?_
    obtain ⟨hPc, hDc, hFc⟩ := zc_sub (wc := [(om k0 a I0 J0)]) hP hD hS hA [0] rfl rfl
    refine zcall (st1 := [.int (-1)]) (va_runV (As := [.int 1]) (rest := []) ⟨hx, hb, hml, hown, hts⟩ (k_M_refuse l dC dI cI cZ cF H.size k0 a I0 J0 1 (by decide)) (csV_185 hts rfl rfl ⟨Nat.le_of_ble_eq_true rfl, Nat.le_of_ble_eq_true rfl⟩) (zPV2 (q0 := 0) (ci := 9) hPc hDc hK hXN rfl rfl) rfl rfl hl.1 rfl (lv_room (Nat.le_of_ble_eq_true rfl)) dX11_corner_10 ⟨Nat.le_of_ble_eq_true rfl, Nat.le_of_ble_eq_true rfl⟩) hS hFc hFc rfl (fun t H locs ht hB hk1 hS => ?_)
    obtain ⟨hP1, hD1⟩ := hB
    rw [ht] at hP1
    obtain ⟨hP, hD⟩ := zk (W2 := [(om k0 a (upd (upd I0 14 1) 15 (I0 15)) J0)]) hP hD [0] [] [] [0] [0] 1 rfl rfl rfl rfl rfl rfl rfl rfl rfl hk1 hFc hP1 hD1
    clear hk1 hPc hDc hFc hP1 hD1 ht
    obtain ⟨hP9, hD9⟩ := zq_sub (wc := [(om k0 a (upd (upd I0 14 1) 15 (I0 15)) J0)]) hP hD [0] rfl rfl
    rw [hQ9]
    exact W.iret (v := (-1)) hx hb hr (fun t ht hW => ⟨⟨rfl, by rw [ht]; exact hP9, hD9⟩, hS.F ht⟩) hS.2.2 dX11_corner_13
set_option maxHeartbeats 4000000 in
set_option maxRecDepth 100000 in
theorem k_M_tear_x (l : Launch) (dC : Nat → ClassId) (dI : Nat → Nat → Nat) (cI cZ cF : ClassId) (sz : Nat) (k0 : Nat) (a : Nat → Nat) (I0 : Nat → Int32) (J0 : Nat → Int64) (ft : Nat) (v : Int32) (hft : I0 0 = nI ft) (h200 : ft ≤ 200) (hv : ¬ (0 ≤ v.toInt ∧ v.toInt < (ft : Int))) : Met l yX11_tear (.code yX11_tear cX11_tear 2 (some .boolean) :: ws0) ({ frames := 2, cells := 0, slots := 0, locals := 42 } : Room) (va_Pc [.ref k0, .int v] (zPre (dC, dI) classes (zTy cI cZ cF) [(om k0 a I0 J0)] sz zXN)) (zQ (some (.int 0)) (fun t => va_P (dC, dI) classes [(om k0 a (upd (upd I0 14 1) 15 (I0 15)) J0)] t.heap ∧ va_D (va_A [(om k0 a I0 J0)] sz) [(om k0 a (upd (upd I0 14 1) 15 (I0 15)) J0)]) (va_A [(om k0 a I0 J0)] sz)) 0 0 (va_A [(om k0 a I0 J0)] sz) := by
  refine Met.ofW (cc := cX11_tear) (maxL := 2) (ret := (some .boolean)) rfl rfl ?_
  intro p e s m args below meth c s₁ B hml hv
  obtain ⟨rfl, hsz, hP, hK, hD0, hXN⟩ := hv
  have hx := B.exec
  have hb := B.bytes
  have hr := B.returns
  have hts0 := atoms_spec (ws := .code yX11_tear cX11_tear 2 (some .boolean) :: ws0) B.pre
  have hts : ∀ w9 ∈ ws0, w9.before ([.ref k0, .int v] : List Value).toArray s = true := fun w9 h => hts0 w9 (List.mem_cons_of_mem _ h)
  have hown : s.vm.findClass "ScaleShopModel" = some m.cls := findClass_of_methodNamed B.named
  have hlocks := B.notSynchronized
  subst hsz
  have hD := hD0.self (sz := s.heap.size)
  clear hD0
  generalize hAe : va_A [(om k0 a I0 J0)] s.heap.size = A at hD ⊢
  have hA : ∀ q : Nat, s.heap.size ≤ q → A q := fun q h => by rw [← hAe]; exact Or.inr h
  clear hAe
  have hS : va_S A s.heap s.heap [] := va_S.rf
  have hP : va_P (dC, dI) classes [(om k0 a I0 J0)] s.heap := hP
  obtain ⟨Q9, hQ9⟩ : ∃ Q9 : State → Prop, Q9 = MQ below (zQ (some (.int 0)) (fun t => va_P (dC, dI) classes [(om k0 a (upd (upd I0 14 1) 15 (I0 15)) J0)] t.heap ∧ va_D A [(om k0 a (upd (upd I0 14 1) 15 (I0 15)) J0)]) A) ([.ref k0, .int v] : List Value).toArray s 0 0 A := ⟨_, rfl⟩
  rw [← hQ9]
  have hl := lv_entry ([.ref k0, .int v]) (n := 2) (Nat.le_of_ble_eq_true rfl)
  rw [lg_entry_eq]
  generalize (lg_sl ([.ref k0, .int v]) ++ List.replicate (2 - (lg_sl ([.ref k0, .int v])).length) Slot.unset).toArray = ls at hl ⊢
  have hl : lv_has ls 2 [(0, .ref k0), (1, .int v)] := hl
  refine lv_aload_n hx hb dX11_tear_0 rfl (lv_at hl 0 rfl) ?_
  refine lv_iload_n hx hb dX11_tear_1 rfl (lv_at hl 1 rfl) ?_
  obtain ⟨hPc, hDc, hFc⟩ := zc_sub (wc := [(om k0 a I0 J0)]) hP hD hS hA [0] rfl rfl
  refine zcall (st1 := [.int (pI (0 ≤ v.toInt ∧ v.toInt < (ft : Int)))]) (va_runV (As := [.int v]) (rest := []) ⟨hx, hb, hml, hown, hts⟩ (k_M_isFeature l dC dI cI cZ cF s.heap.size k0 a I0 J0 ft v (by first | with_reducible assumption | assumption) (by first | with_reducible assumption | omega)) (csV_178 hts rfl rfl ⟨Nat.le_of_ble_eq_true rfl, Nat.le_of_ble_eq_true rfl⟩) (zPV2 (q0 := 0) (ci := 9) hPc hDc hK hXN rfl rfl) rfl rfl hl.1 rfl (lv_room (Nat.le_of_ble_eq_true rfl)) dX11_tear_2 ⟨Nat.le_of_ble_eq_true rfl, Nat.le_of_ble_eq_true rfl⟩) hS hFc hFc rfl (fun t H locs ht hB hk1 hS => ?_)
  obtain ⟨hP1, hD1⟩ := hB
  rw [ht] at hP1
  obtain ⟨hP, hD⟩ := zk (W2 := [(om k0 a I0 J0)]) hP hD [0] [] [] [0] [0] 1 rfl rfl rfl rfl rfl rfl rfl rfl rfl hk1 hFc hP1 hD1
  clear hk1 hPc hDc hFc hP1 hD1 ht
  refine lv_if_ne (tgt := 14) hx hb dX11_tear_5 rfl (fun c_1 => ?_) (fun c_1 => ?_)
  · have c_1 : 0 ≤ v.toInt ∧ v.toInt < (ft : Int) := zp_1 c_1
    exfalso; exact absurd (by first | with_reducible assumption | assumption) hv
  · have c_1 : ¬ (0 ≤ v.toInt ∧ v.toInt < (ft : Int)) := zp_0 c_1
    refine lv_aload_n hx hb dX11_tear_8 rfl (lv_at hl 0 rfl) ?_
    refine lv_iconst (v := 1) hx hb dX11_tear_9 rfl ?_
    obtain ⟨hPc, hDc, hFc⟩ := zc_sub (wc := [(om k0 a I0 J0)]) hP hD hS hA [0] rfl rfl
    refine zcall (st1 := [.int 0]) (va_runV (As := [.int 1]) (rest := []) ⟨hx, hb, hml, hown, hts⟩ (k_M_no l dC dI cI cZ cF H.size k0 a I0 J0 1 (by decide)) (csV_198 hts rfl rfl ⟨Nat.le_of_ble_eq_true rfl, Nat.le_of_ble_eq_true rfl⟩) (zPV2 (q0 := 0) (ci := 9) hPc hDc hK hXN rfl rfl) rfl rfl hl.1 rfl (lv_room (Nat.le_of_ble_eq_true rfl)) dX11_tear_10 ⟨Nat.le_of_ble_eq_true rfl, Nat.le_of_ble_eq_true rfl⟩) hS hFc hFc rfl (fun t H locs ht hB hk1 hS => ?_)
    obtain ⟨hP1, hD1⟩ := hB
    rw [ht] at hP1
    obtain ⟨hP, hD⟩ := zk (W2 := [(om k0 a (upd (upd I0 14 1) 15 (I0 15)) J0)]) hP hD [0] [] [] [0] [0] 1 rfl rfl rfl rfl rfl rfl rfl rfl rfl hk1 hFc hP1 hD1
    clear hk1 hPc hDc hFc hP1 hD1 ht
    obtain ⟨hP9, hD9⟩ := zq_sub (wc := [(om k0 a (upd (upd I0 14 1) 15 (I0 15)) J0)]) hP hD [0] rfl rfl
    rw [hQ9]
    exact W.zret (ty := .boolean) (v := 0) hx hb hr (rfl) (fun t ht hW => ⟨⟨rfl, by rw [ht]; exact hP9, hD9⟩, hS.F ht⟩) hS.2.2 dX11_tear_13
set_option maxHeartbeats 4000000 in
set_option maxRecDepth 100000 in
theorem k_M_done_x (l : Launch) (dC : Nat → ClassId) (dI : Nat → Nat → Nat) (cI cZ cF : ClassId) (sz : Nat) (k0 : Nat) (a : Nat → Nat) (I0 : Nat → Int32) (J0 : Nat → Int64) (ft : Nat) (v : Int32) (hft : I0 0 = nI ft) (h200 : ft ≤ 200) (hv : ¬ (0 ≤ v.toInt ∧ v.toInt < (ft : Int))) : Met l yX11_done (.code yX11_done cX11_done 2 (some .boolean) :: ws0) ({ frames := 2, cells := 0, slots := 0, locals := 42 } : Room) (va_Pc [.ref k0, .int v] (zPre (dC, dI) classes (zTy cI cZ cF) [(om k0 a I0 J0)] sz zXN)) (zQ (some (.int 0)) (fun t => va_P (dC, dI) classes [(om k0 a (upd (upd I0 14 1) 15 (I0 15)) J0)] t.heap ∧ va_D (va_A [(om k0 a I0 J0)] sz) [(om k0 a (upd (upd I0 14 1) 15 (I0 15)) J0)]) (va_A [(om k0 a I0 J0)] sz)) 0 0 (va_A [(om k0 a I0 J0)] sz) := by
  refine Met.ofW (cc := cX11_done) (maxL := 2) (ret := (some .boolean)) rfl rfl ?_
  intro p e s m args below meth c s₁ B hml hv
  obtain ⟨rfl, hsz, hP, hK, hD0, hXN⟩ := hv
  have hx := B.exec
  have hb := B.bytes
  have hr := B.returns
  have hts0 := atoms_spec (ws := .code yX11_done cX11_done 2 (some .boolean) :: ws0) B.pre
  have hts : ∀ w9 ∈ ws0, w9.before ([.ref k0, .int v] : List Value).toArray s = true := fun w9 h => hts0 w9 (List.mem_cons_of_mem _ h)
  have hown : s.vm.findClass "ScaleShopModel" = some m.cls := findClass_of_methodNamed B.named
  have hlocks := B.notSynchronized
  subst hsz
  have hD := hD0.self (sz := s.heap.size)
  clear hD0
  generalize hAe : va_A [(om k0 a I0 J0)] s.heap.size = A at hD ⊢
  have hA : ∀ q : Nat, s.heap.size ≤ q → A q := fun q h => by rw [← hAe]; exact Or.inr h
  clear hAe
  have hS : va_S A s.heap s.heap [] := va_S.rf
  have hP : va_P (dC, dI) classes [(om k0 a I0 J0)] s.heap := hP
  obtain ⟨Q9, hQ9⟩ : ∃ Q9 : State → Prop, Q9 = MQ below (zQ (some (.int 0)) (fun t => va_P (dC, dI) classes [(om k0 a (upd (upd I0 14 1) 15 (I0 15)) J0)] t.heap ∧ va_D A [(om k0 a (upd (upd I0 14 1) 15 (I0 15)) J0)]) A) ([.ref k0, .int v] : List Value).toArray s 0 0 A := ⟨_, rfl⟩
  rw [← hQ9]
  have hl := lv_entry ([.ref k0, .int v]) (n := 2) (Nat.le_of_ble_eq_true rfl)
  rw [lg_entry_eq]
  generalize (lg_sl ([.ref k0, .int v]) ++ List.replicate (2 - (lg_sl ([.ref k0, .int v])).length) Slot.unset).toArray = ls at hl ⊢
  have hl : lv_has ls 2 [(0, .ref k0), (1, .int v)] := hl
  refine lv_aload_n hx hb dX11_done_0 rfl (lv_at hl 0 rfl) ?_
  refine lv_iload_n hx hb dX11_done_1 rfl (lv_at hl 1 rfl) ?_
  obtain ⟨hPc, hDc, hFc⟩ := zc_sub (wc := [(om k0 a I0 J0)]) hP hD hS hA [0] rfl rfl
  refine zcall (st1 := [.int (pI (0 ≤ v.toInt ∧ v.toInt < (ft : Int)))]) (va_runV (As := [.int v]) (rest := []) ⟨hx, hb, hml, hown, hts⟩ (k_M_isFeature l dC dI cI cZ cF s.heap.size k0 a I0 J0 ft v (by first | with_reducible assumption | assumption) (by first | with_reducible assumption | omega)) (csV_178 hts rfl rfl ⟨Nat.le_of_ble_eq_true rfl, Nat.le_of_ble_eq_true rfl⟩) (zPV2 (q0 := 0) (ci := 9) hPc hDc hK hXN rfl rfl) rfl rfl hl.1 rfl (lv_room (Nat.le_of_ble_eq_true rfl)) dX11_done_2 ⟨Nat.le_of_ble_eq_true rfl, Nat.le_of_ble_eq_true rfl⟩) hS hFc hFc rfl (fun t H locs ht hB hk1 hS => ?_)
  obtain ⟨hP1, hD1⟩ := hB
  rw [ht] at hP1
  obtain ⟨hP, hD⟩ := zk (W2 := [(om k0 a I0 J0)]) hP hD [0] [] [] [0] [0] 1 rfl rfl rfl rfl rfl rfl rfl rfl rfl hk1 hFc hP1 hD1
  clear hk1 hPc hDc hFc hP1 hD1 ht
  refine lv_if_ne (tgt := 14) hx hb dX11_done_5 rfl (fun c_1 => ?_) (fun c_1 => ?_)
  · have c_1 : 0 ≤ v.toInt ∧ v.toInt < (ft : Int) := zp_1 c_1
    exfalso; exact absurd (by first | with_reducible assumption | assumption) hv
  · have c_1 : ¬ (0 ≤ v.toInt ∧ v.toInt < (ft : Int)) := zp_0 c_1
    refine lv_aload_n hx hb dX11_done_8 rfl (lv_at hl 0 rfl) ?_
    refine lv_iconst (v := 1) hx hb dX11_done_9 rfl ?_
    obtain ⟨hPc, hDc, hFc⟩ := zc_sub (wc := [(om k0 a I0 J0)]) hP hD hS hA [0] rfl rfl
    refine zcall (st1 := [.int 0]) (va_runV (As := [.int 1]) (rest := []) ⟨hx, hb, hml, hown, hts⟩ (k_M_no l dC dI cI cZ cF H.size k0 a I0 J0 1 (by decide)) (csV_198 hts rfl rfl ⟨Nat.le_of_ble_eq_true rfl, Nat.le_of_ble_eq_true rfl⟩) (zPV2 (q0 := 0) (ci := 9) hPc hDc hK hXN rfl rfl) rfl rfl hl.1 rfl (lv_room (Nat.le_of_ble_eq_true rfl)) dX11_done_10 ⟨Nat.le_of_ble_eq_true rfl, Nat.le_of_ble_eq_true rfl⟩) hS hFc hFc rfl (fun t H locs ht hB hk1 hS => ?_)
    obtain ⟨hP1, hD1⟩ := hB
    rw [ht] at hP1
    obtain ⟨hP, hD⟩ := zk (W2 := [(om k0 a (upd (upd I0 14 1) 15 (I0 15)) J0)]) hP hD [0] [] [] [0] [0] 1 rfl rfl rfl rfl rfl rfl rfl rfl rfl hk1 hFc hP1 hD1
    clear hk1 hPc hDc hFc hP1 hD1 ht
    obtain ⟨hP9, hD9⟩ := zq_sub (wc := [(om k0 a (upd (upd I0 14 1) 15 (I0 15)) J0)]) hP hD [0] rfl rfl
    rw [hQ9]
    exact W.zret (ty := .boolean) (v := 0) hx hb hr (rfl) (fun t ht hW => ⟨⟨rfl, by rw [ht]; exact hP9, hD9⟩, hS.F ht⟩) hS.2.2 dX11_done_13
set_option maxHeartbeats 4000000 in
set_option maxRecDepth 100000 in
theorem k_M_corner_r (l : Launch) (dC : Nat → ClassId) (dI : Nat → Nat → Nat) (cI cZ cF : ClassId) (sz : Nat) (k0 : Nat) (a : Nat → Nat) (I0 : Nat → Int32) (J0 : Nat → Int64) (f : Nat) (n : Nat) (ft : Nat) (px : Int32) (py : Int32) (st : Nat → Int32) (tn : Nat → Int32) (mn : Nat → Int32) (kd : Nat → Int32) (hft : I0 0 = nI ft) (h200 : ft ≤ 200) (hf_t : f < ft) (hm_f : mn f = nI n) (hn_f : n ≤ 40) (hbad : ¬ ((st f).toInt = 0 ∧ (0 ≤ px.toInt ∧ px.toInt ≤ 1000 ∧ 0 ≤ py.toInt ∧ py.toInt ≤ 1000) ∧ (tn f).toInt = 0 ∧ ¬ n = cpk (kd f).toInt)) : Met l yX11_corner (.code yX11_corner cX11_corner 4 (some .int) :: ws0) ({ frames := 1, cells := 0, slots := 0, locals := 21 } : Room) (va_Pc [.ref k0, .int (nI f), .int px, .int py] (zPre (dC, dI) classes (zTy cI cZ cF) [(om k0 a I0 J0), (oa (a 5) cI 201 st), (oa (a 6) cZ 201 tn), (oa (a 11) cI 201 mn), (oa (a 1) cI 201 kd)] sz zXN)) (zQ (some (.int (-1))) (fun t => ∃ (z9 : Int32), va_P (dC, dI) classes [(om k0 a (upd (upd I0 14 z9) 15 (I0 15)) J0), (oa (a 5) cI 201 st), (oa (a 6) cZ 201 tn), (oa (a 11) cI 201 mn), (oa (a 1) cI 201 kd)] t.heap ∧ va_D (va_A [(om k0 a I0 J0), (oa (a 5) cI 201 st), (oa (a 6) cZ 201 tn), (oa (a 11) cI 201 mn), (oa (a 1) cI 201 kd)] sz) [(om k0 a (upd (upd I0 14 z9) 15 (I0 15)) J0), (oa (a 5) cI 201 st), (oa (a 6) cZ 201 tn), (oa (a 11) cI 201 mn), (oa (a 1) cI 201 kd)]) (va_A [(om k0 a I0 J0), (oa (a 5) cI 201 st), (oa (a 6) cZ 201 tn), (oa (a 11) cI 201 mn), (oa (a 1) cI 201 kd)] sz)) 0 0 (va_A [(om k0 a I0 J0), (oa (a 5) cI 201 st), (oa (a 6) cZ 201 tn), (oa (a 11) cI 201 mn), (oa (a 1) cI 201 kd)] sz) := by
  refine Met.ofW (cc := cX11_corner) (maxL := 4) (ret := (some .int)) rfl rfl ?_
  intro p e s m args below meth c s₁ B hml hv
  obtain ⟨rfl, hsz, hP, hK, hD0, hXN⟩ := hv
  have hx := B.exec
  have hb := B.bytes
  have hr := B.returns
  have hts0 := atoms_spec (ws := .code yX11_corner cX11_corner 4 (some .int) :: ws0) B.pre
  have hts : ∀ w9 ∈ ws0, w9.before ([.ref k0, .int (nI f), .int px, .int py] : List Value).toArray s = true := fun w9 h => hts0 w9 (List.mem_cons_of_mem _ h)
  have hown : s.vm.findClass "ScaleShopModel" = some m.cls := findClass_of_methodNamed B.named
  have hlocks := B.notSynchronized
  subst hsz
  have hD := hD0.self (sz := s.heap.size)
  clear hD0
  generalize hAe : va_A [(om k0 a I0 J0), (oa (a 5) cI 201 st), (oa (a 6) cZ 201 tn), (oa (a 11) cI 201 mn), (oa (a 1) cI 201 kd)] s.heap.size = A at hD ⊢
  have hA : ∀ q : Nat, s.heap.size ≤ q → A q := fun q h => by rw [← hAe]; exact Or.inr h
  clear hAe
  have hS : va_S A s.heap s.heap [] := va_S.rf
  have hP : va_P (dC, dI) classes [(om k0 a I0 J0), (oa (a 5) cI 201 st), (oa (a 6) cZ 201 tn), (oa (a 11) cI 201 mn), (oa (a 1) cI 201 kd)] s.heap := hP
  obtain ⟨Q9, hQ9⟩ : ∃ Q9 : State → Prop, Q9 = MQ below (zQ (some (.int (-1))) (fun t => ∃ (z9 : Int32), va_P (dC, dI) classes [(om k0 a (upd (upd I0 14 z9) 15 (I0 15)) J0), (oa (a 5) cI 201 st), (oa (a 6) cZ 201 tn), (oa (a 11) cI 201 mn), (oa (a 1) cI 201 kd)] t.heap ∧ va_D A [(om k0 a (upd (upd I0 14 z9) 15 (I0 15)) J0), (oa (a 5) cI 201 st), (oa (a 6) cZ 201 tn), (oa (a 11) cI 201 mn), (oa (a 1) cI 201 kd)]) A) ([.ref k0, .int (nI f), .int px, .int py] : List Value).toArray s 0 0 A := ⟨_, rfl⟩
  rw [← hQ9]
  have hl := lv_entry ([.ref k0, .int (nI f), .int px, .int py]) (n := 4) (Nat.le_of_ble_eq_true rfl)
  rw [lg_entry_eq]
  generalize (lg_sl ([.ref k0, .int (nI f), .int px, .int py]) ++ List.replicate (4 - (lg_sl ([.ref k0, .int (nI f), .int px, .int py])).length) Slot.unset).toArray = ls at hl ⊢
  have hl : lv_has ls 4 [(0, .ref k0), (1, .int (nI f)), (2, .int px), (3, .int py)] := hl
  have hcp := cpk_s (kd f).toInt
  refine lv_aload_n hx hb dX11_corner_0 rfl (lv_at hl 0 rfl) ?_
  refine lv_iload_n hx hb dX11_corner_1 rfl (lv_at hl 1 rfl) ?_
  obtain ⟨hPc, hDc, hFc⟩ := zc_sub (wc := [(om k0 a I0 J0)]) hP hD hS hA [0] rfl rfl
  refine zcall (st1 := [.int (pI (f < ft))]) (va_runV (As := [.int (nI f)]) (rest := []) ⟨hx, hb, hml, hown, hts⟩ (k_M_isFeature_n l dC dI cI cZ cF s.heap.size k0 a I0 J0 f ft (by first | with_reducible assumption | assumption) (by first | with_reducible assumption | omega) (by first | with_reducible assumption | omega)) (csV_178 hts rfl rfl ⟨Nat.le_of_ble_eq_true rfl, Nat.le_of_ble_eq_true rfl⟩) (zPV2 (q0 := 0) (ci := 9) hPc hDc hK hXN rfl rfl) rfl rfl hl.1 rfl (lv_room (Nat.le_of_ble_eq_true rfl)) dX11_corner_2 ⟨Nat.le_of_ble_eq_true rfl, Nat.le_of_ble_eq_true rfl⟩) hS hFc hFc rfl (fun t H locs ht hB hk1 hS => ?_)
  obtain ⟨hP1, hD1⟩ := hB
  rw [ht] at hP1
  obtain ⟨hP, hD⟩ := zk (W2 := [(om k0 a I0 J0), (oa (a 5) cI 201 st), (oa (a 6) cZ 201 tn), (oa (a 11) cI 201 mn), (oa (a 1) cI 201 kd)]) hP hD [0] [1, 2, 3, 4] [1, 2, 3, 4] [0] [4, 0, 1, 2, 3] 5 rfl rfl rfl rfl rfl rfl rfl rfl rfl hk1 hFc hP1 hD1
  clear hk1 hPc hDc hFc hP1 hD1 ht
  refine lv_if_ne (tgt := 14) hx hb dX11_corner_5 rfl (fun c_1 => ?_) (fun c_1 => ?_)
  · have c_1 : f < ft := zp_1 c_1
    refine lv_aload_n hx hb dX11_corner_14 rfl (lv_at hl 0 rfl) ?_
    refine va_get (D := (dC, dI)) (ci := 9) (v := .ref (a 5)) (C := RX11) (T := TX11) (N := 55) hx hb hts inX11 hown hK hP 0 rfl rfl 5 (Nat.le_of_ble_eq_true rfl) (hts _ mw_1164) (fun _ h9 => h9) rfl dX11_corner_15 ?_
    refine lv_iload_n hx hb dX11_corner_18 rfl (lv_at hl 1 rfl) ?_
    have b9_2 : f < 201 := by omega
    refine z_iald hx hb hK hP 1 0 rfl rfl (e := f) rfl b9_2 (Nat.le_of_ble_eq_true rfl) dX11_corner_19 ?_
    refine lv_if_eq (tgt := 29) hx hb dX11_corner_20 rfl (fun c_3 => ?_) (fun c_3 => ?_)
    · have c_3 : (st f).toInt = 0 := zc_eq rfl rfl c_3
      refine lv_iload_n hx hb dX11_corner_29 rfl (lv_at hl 2 rfl) ?_
      refine lv_if_lt (tgt := 51) hx hb dX11_corner_30 rfl (fun c_4 => ?_) (fun c_4 => ?_)
      · have c_4 : px.toInt < 0 := zc_lt rfl rfl c_4
        refine lv_aload_n hx hb dX11_corner_51 rfl (lv_at hl 0 rfl) ?_
        refine lv_iconst (v := 4) hx hb dX11_corner_52 rfl ?_
        obtain ⟨hPc, hDc, hFc⟩ := zc_sub (wc := [(om k0 a I0 J0)]) hP hD hS hA [0] rfl rfl
        refine zcall (st1 := [.int (-1)]) (va_runV (As := [.int 4]) (rest := []) ⟨hx, hb, hml, hown, hts⟩ (k_M_refuse l dC dI cI cZ cF H.size k0 a I0 J0 4 (by decide)) (csV_185 hts rfl rfl ⟨Nat.le_of_ble_eq_true rfl, Nat.le_of_ble_eq_true rfl⟩) (zPV2 (q0 := 0) (ci := 9) hPc hDc hK hXN rfl rfl) rfl rfl hl.1 rfl (lv_room (Nat.le_of_ble_eq_true rfl)) dX11_corner_53 ⟨Nat.le_of_ble_eq_true rfl, Nat.le_of_ble_eq_true rfl⟩) hS hFc hFc rfl (fun t H locs ht hB hk1 hS => ?_)
        obtain ⟨hP1, hD1⟩ := hB
        rw [ht] at hP1
        obtain ⟨hP, hD⟩ := zk (W2 := [(om k0 a (upd (upd I0 14 4) 15 (I0 15)) J0), (oa (a 5) cI 201 st), (oa (a 6) cZ 201 tn), (oa (a 11) cI 201 mn), (oa (a 1) cI 201 kd)]) hP hD [0] [1, 2, 3, 4] [1, 2, 3, 4] [0] [4, 0, 1, 2, 3] 5 rfl rfl rfl rfl rfl rfl rfl rfl rfl hk1 hFc hP1 hD1
        clear hk1 hPc hDc hFc hP1 hD1 ht
        obtain ⟨hP9, hD9⟩ := zq_sub (wc := [(om k0 a (upd (upd I0 14 4) 15 (I0 15)) J0), (oa (a 5) cI 201 st), (oa (a 6) cZ 201 tn), (oa (a 11) cI 201 mn), (oa (a 1) cI 201 kd)]) hP hD [0, 1, 2, 3, 4] rfl rfl
        rw [hQ9]
        exact W.iret (v := (-1)) hx hb hr (fun t ht hW => ⟨⟨rfl, 4, by rw [ht]; exact hP9, hD9⟩, hS.F ht⟩) hS.2.2 dX11_corner_56
      · have c_4 : 0 ≤ px.toInt := zc_nlt rfl rfl c_4
        refine lv_iload_n hx hb dX11_corner_33 rfl (lv_at hl 2 rfl) ?_
        refine lv_sipush (v := 1000) hx hb dX11_corner_34 rfl ?_
        refine lv_icmp_gt (tgt := 51) hx hb dX11_corner_37 rfl (fun c_5 => ?_) (fun c_5 => ?_)
        · have c_5 : 1000 < px.toInt := zc_lt rfl rfl c_5
          refine lv_aload_n hx hb dX11_corner_51 rfl (lv_at hl 0 rfl) ?_
          refine lv_iconst (v := 4) hx hb dX11_corner_52 rfl ?_
          obtain ⟨hPc, hDc, hFc⟩ := zc_sub (wc := [(om k0 a I0 J0)]) hP hD hS hA [0] rfl rfl
          refine zcall (st1 := [.int (-1)]) (va_runV (As := [.int 4]) (rest := []) ⟨hx, hb, hml, hown, hts⟩ (k_M_refuse l dC dI cI cZ cF H.size k0 a I0 J0 4 (by decide)) (csV_185 hts rfl rfl ⟨Nat.le_of_ble_eq_true rfl, Nat.le_of_ble_eq_true rfl⟩) (zPV2 (q0 := 0) (ci := 9) hPc hDc hK hXN rfl rfl) rfl rfl hl.1 rfl (lv_room (Nat.le_of_ble_eq_true rfl)) dX11_corner_53 ⟨Nat.le_of_ble_eq_true rfl, Nat.le_of_ble_eq_true rfl⟩) hS hFc hFc rfl (fun t H locs ht hB hk1 hS => ?_)
          obtain ⟨hP1, hD1⟩ := hB
          rw [ht] at hP1
          obtain ⟨hP, hD⟩ := zk (W2 := [(om k0 a (upd (upd I0 14 4) 15 (I0 15)) J0), (oa (a 5) cI 201 st), (oa (a 6) cZ 201 tn), (oa (a 11) cI 201 mn), (oa (a 1) cI 201 kd)]) hP hD [0] [1, 2, 3, 4] [1, 2, 3, 4] [0] [4, 0, 1, 2, 3] 5 rfl rfl rfl rfl rfl rfl rfl rfl rfl hk1 hFc hP1 hD1
          clear hk1 hPc hDc hFc hP1 hD1 ht
          obtain ⟨hP9, hD9⟩ := zq_sub (wc := [(om k0 a (upd (upd I0 14 4) 15 (I0 15)) J0), (oa (a 5) cI 201 st), (oa (a 6) cZ 201 tn), (oa (a 11) cI 201 mn), (oa (a 1) cI 201 kd)]) hP hD [0, 1, 2, 3, 4] rfl rfl
          rw [hQ9]
          exact W.iret (v := (-1)) hx hb hr (fun t ht hW => ⟨⟨rfl, 4, by rw [ht]; exact hP9, hD9⟩, hS.F ht⟩) hS.2.2 dX11_corner_56
        · have c_5 : px.toInt ≤ 1000 := zc_nlt rfl rfl c_5
          refine lv_iload_n hx hb dX11_corner_40 rfl (lv_at hl 3 rfl) ?_
          refine lv_if_lt (tgt := 51) hx hb dX11_corner_41 rfl (fun c_6 => ?_) (fun c_6 => ?_)
          · have c_6 : py.toInt < 0 := zc_lt rfl rfl c_6
            refine lv_aload_n hx hb dX11_corner_51 rfl (lv_at hl 0 rfl) ?_
            refine lv_iconst (v := 4) hx hb dX11_corner_52 rfl ?_
            obtain ⟨hPc, hDc, hFc⟩ := zc_sub (wc := [(om k0 a I0 J0)]) hP hD hS hA [0] rfl rfl
            refine zcall (st1 := [.int (-1)]) (va_runV (As := [.int 4]) (rest := []) ⟨hx, hb, hml, hown, hts⟩ (k_M_refuse l dC dI cI cZ cF H.size k0 a I0 J0 4 (by decide)) (csV_185 hts rfl rfl ⟨Nat.le_of_ble_eq_true rfl, Nat.le_of_ble_eq_true rfl⟩) (zPV2 (q0 := 0) (ci := 9) hPc hDc hK hXN rfl rfl) rfl rfl hl.1 rfl (lv_room (Nat.le_of_ble_eq_true rfl)) dX11_corner_53 ⟨Nat.le_of_ble_eq_true rfl, Nat.le_of_ble_eq_true rfl⟩) hS hFc hFc rfl (fun t H locs ht hB hk1 hS => ?_)
            obtain ⟨hP1, hD1⟩ := hB
            rw [ht] at hP1
            obtain ⟨hP, hD⟩ := zk (W2 := [(om k0 a (upd (upd I0 14 4) 15 (I0 15)) J0), (oa (a 5) cI 201 st), (oa (a 6) cZ 201 tn), (oa (a 11) cI 201 mn), (oa (a 1) cI 201 kd)]) hP hD [0] [1, 2, 3, 4] [1, 2, 3, 4] [0] [4, 0, 1, 2, 3] 5 rfl rfl rfl rfl rfl rfl rfl rfl rfl hk1 hFc hP1 hD1
            clear hk1 hPc hDc hFc hP1 hD1 ht
            obtain ⟨hP9, hD9⟩ := zq_sub (wc := [(om k0 a (upd (upd I0 14 4) 15 (I0 15)) J0), (oa (a 5) cI 201 st), (oa (a 6) cZ 201 tn), (oa (a 11) cI 201 mn), (oa (a 1) cI 201 kd)]) hP hD [0, 1, 2, 3, 4] rfl rfl
            rw [hQ9]
            exact W.iret (v := (-1)) hx hb hr (fun t ht hW => ⟨⟨rfl, 4, by rw [ht]; exact hP9, hD9⟩, hS.F ht⟩) hS.2.2 dX11_corner_56
          · have c_6 : 0 ≤ py.toInt := zc_nlt rfl rfl c_6
            refine lv_iload_n hx hb dX11_corner_44 rfl (lv_at hl 3 rfl) ?_
            refine lv_sipush (v := 1000) hx hb dX11_corner_45 rfl ?_
            refine lv_icmp_le (tgt := 57) hx hb dX11_corner_48 rfl (fun c_7 => ?_) (fun c_7 => ?_)
            · have c_7 : py.toInt ≤ 1000 := zc_le rfl rfl c_7
              refine lv_aload_n hx hb dX11_corner_57 rfl (lv_at hl 0 rfl) ?_
              refine va_get (D := (dC, dI)) (ci := 9) (v := .ref (a 6)) (C := RX11) (T := TX11) (N := 55) hx hb hts inX11 hown hK hP 0 rfl rfl 6 (Nat.le_of_ble_eq_true rfl) (hts _ mw_1165) (fun _ h9 => h9) rfl dX11_corner_58 ?_
              refine lv_iload_n hx hb dX11_corner_61 rfl (lv_at hl 1 rfl) ?_
              refine z_zald hx hb hK hP 2 1 rfl rfl (e := f) rfl b9_2 (Nat.le_of_ble_eq_true rfl) dX11_corner_62 ?_
              refine lv_if_eq (tgt := 72) hx hb dX11_corner_63 rfl (fun c_8 => ?_) (fun c_8 => ?_)
              · have c_8 : (tn f).toInt = 0 := zc_eq rfl rfl c_8
                refine lv_aload_n hx hb dX11_corner_72 rfl (lv_at hl 0 rfl) ?_
                refine va_get (D := (dC, dI)) (ci := 9) (v := .ref (a 11)) (C := RX11) (T := TX11) (N := 55) hx hb hts inX11 hown hK hP 0 rfl rfl 11 (Nat.le_of_ble_eq_true rfl) (hts _ mw_1170) (fun _ h9 => h9) rfl dX11_corner_73 ?_
                refine lv_iload_n hx hb dX11_corner_76 rfl (lv_at hl 1 rfl) ?_
                refine z_iald hx hb hK hP 3 0 rfl rfl (e := f) rfl b9_2 (Nat.le_of_ble_eq_true rfl) dX11_corner_77 ?_
                refine zz_i (v := nI n) (hm_f) ?_
                refine lv_aload_n hx hb dX11_corner_78 rfl (lv_at hl 0 rfl) ?_
                refine va_get (D := (dC, dI)) (ci := 9) (v := .ref (a 1)) (C := RX11) (T := TX11) (N := 55) hx hb hts inX11 hown hK hP 0 rfl rfl 1 (Nat.le_of_ble_eq_true rfl) (hts _ mw_1160) (fun _ h9 => h9) rfl dX11_corner_79 ?_
                refine lv_iload_n hx hb dX11_corner_82 rfl (lv_at hl 1 rfl) ?_
                refine z_iald hx hb hK hP 4 0 rfl rfl (e := f) rfl b9_2 (Nat.le_of_ble_eq_true rfl) dX11_corner_83 ?_
                refine lv_if_ne (tgt := 91) hx hb dX11_corner_84 rfl (fun c_9 => ?_) (fun c_9 => ?_)
                · have c_9 : ¬ (kd f).toInt = 0 := zc_ne rfl rfl c_9
                  refine lv_bipush (v := 40) hx hb dX11_corner_91 rfl ?_
                  have b9_11 : n < 2147483648 := by omega
                  refine lv_icmp_ne (tgt := 103) hx hb dX11_corner_93 rfl (fun c_10 => ?_) (fun c_10 => ?_)
                  · have c_10 : ¬ ((n : Nat) : Int) = 40 := zc_ne (nI_toInt b9_11) rfl c_10
                    exfalso; omega
                  · have c_10 : ((n : Nat) : Int) = 40 := zc_eq (nI_toInt b9_11) rfl c_10
                    refine lv_aload_n hx hb dX11_corner_96 rfl (lv_at hl 0 rfl) ?_
                    refine lv_bipush (v := 6) hx hb dX11_corner_97 rfl ?_
                    obtain ⟨hPc, hDc, hFc⟩ := zc_sub (wc := [(om k0 a I0 J0)]) hP hD hS hA [0] rfl rfl
                    refine zcall (st1 := [.int (-1)]) (va_runV (As := [.int 6]) (rest := []) ⟨hx, hb, hml, hown, hts⟩ (k_M_refuse l dC dI cI cZ cF H.size k0 a I0 J0 6 (by decide)) (csV_185 hts rfl rfl ⟨Nat.le_of_ble_eq_true rfl, Nat.le_of_ble_eq_true rfl⟩) (zPV2 (q0 := 0) (ci := 9) hPc hDc hK hXN rfl rfl) rfl rfl hl.1 rfl (lv_room (Nat.le_of_ble_eq_true rfl)) dX11_corner_99 ⟨Nat.le_of_ble_eq_true rfl, Nat.le_of_ble_eq_true rfl⟩) hS hFc hFc rfl (fun t H locs ht hB hk1 hS => ?_)
                    obtain ⟨hP1, hD1⟩ := hB
                    rw [ht] at hP1
                    obtain ⟨hP, hD⟩ := zk (W2 := [(om k0 a (upd (upd I0 14 6) 15 (I0 15)) J0), (oa (a 5) cI 201 st), (oa (a 6) cZ 201 tn), (oa (a 11) cI 201 mn), (oa (a 1) cI 201 kd)]) hP hD [0] [1, 2, 3, 4] [1, 2, 3, 4] [0] [4, 0, 1, 2, 3] 5 rfl rfl rfl rfl rfl rfl rfl rfl rfl hk1 hFc hP1 hD1
                    clear hk1 hPc hDc hFc hP1 hD1 ht
                    obtain ⟨hP9, hD9⟩ := zq_sub (wc := [(om k0 a (upd (upd I0 14 6) 15 (I0 15)) J0), (oa (a 5) cI 201 st), (oa (a 6) cZ 201 tn), (oa (a 11) cI 201 mn), (oa (a 1) cI 201 kd)]) hP hD [0, 1, 2, 3, 4] rfl rfl
                    rw [hQ9]
                    exact W.iret (v := (-1)) hx hb hr (fun t ht hW => ⟨⟨rfl, 6, by rw [ht]; exact hP9, hD9⟩, hS.F ht⟩) hS.2.2 dX11_corner_102
                · have c_9 : (kd f).toInt = 0 := zc_eq rfl rfl c_9
                  refine lv_iconst (v := 1) hx hb dX11_corner_87 rfl ?_
                  refine lv_goto (tgt := 93) hx hb dX11_corner_88 rfl ?_
                  have b9_13 : n < 2147483648 := by omega
                  refine lv_icmp_ne (tgt := 103) hx hb dX11_corner_93 rfl (fun c_12 => ?_) (fun c_12 => ?_)
                  · have c_12 : ¬ ((n : Nat) : Int) = 1 := zc_ne (nI_toInt b9_13) rfl c_12
                    exfalso; omega
                  · have c_12 : ((n : Nat) : Int) = 1 := zc_eq (nI_toInt b9_13) rfl c_12
                    refine lv_aload_n hx hb dX11_corner_96 rfl (lv_at hl 0 rfl) ?_
                    refine lv_bipush (v := 6) hx hb dX11_corner_97 rfl ?_
                    obtain ⟨hPc, hDc, hFc⟩ := zc_sub (wc := [(om k0 a I0 J0)]) hP hD hS hA [0] rfl rfl
                    refine zcall (st1 := [.int (-1)]) (va_runV (As := [.int 6]) (rest := []) ⟨hx, hb, hml, hown, hts⟩ (k_M_refuse l dC dI cI cZ cF H.size k0 a I0 J0 6 (by decide)) (csV_185 hts rfl rfl ⟨Nat.le_of_ble_eq_true rfl, Nat.le_of_ble_eq_true rfl⟩) (zPV2 (q0 := 0) (ci := 9) hPc hDc hK hXN rfl rfl) rfl rfl hl.1 rfl (lv_room (Nat.le_of_ble_eq_true rfl)) dX11_corner_99 ⟨Nat.le_of_ble_eq_true rfl, Nat.le_of_ble_eq_true rfl⟩) hS hFc hFc rfl (fun t H locs ht hB hk1 hS => ?_)
                    obtain ⟨hP1, hD1⟩ := hB
                    rw [ht] at hP1
                    obtain ⟨hP, hD⟩ := zk (W2 := [(om k0 a (upd (upd I0 14 6) 15 (I0 15)) J0), (oa (a 5) cI 201 st), (oa (a 6) cZ 201 tn), (oa (a 11) cI 201 mn), (oa (a 1) cI 201 kd)]) hP hD [0] [1, 2, 3, 4] [1, 2, 3, 4] [0] [4, 0, 1, 2, 3] 5 rfl rfl rfl rfl rfl rfl rfl rfl rfl hk1 hFc hP1 hD1
                    clear hk1 hPc hDc hFc hP1 hD1 ht
                    obtain ⟨hP9, hD9⟩ := zq_sub (wc := [(om k0 a (upd (upd I0 14 6) 15 (I0 15)) J0), (oa (a 5) cI 201 st), (oa (a 6) cZ 201 tn), (oa (a 11) cI 201 mn), (oa (a 1) cI 201 kd)]) hP hD [0, 1, 2, 3, 4] rfl rfl
                    rw [hQ9]
                    exact W.iret (v := (-1)) hx hb hr (fun t ht hW => ⟨⟨rfl, 6, by rw [ht]; exact hP9, hD9⟩, hS.F ht⟩) hS.2.2 dX11_corner_102
              · have c_8 : ¬ (tn f).toInt = 0 := zc_ne rfl rfl c_8
                refine lv_aload_n hx hb dX11_corner_66 rfl (lv_at hl 0 rfl) ?_
                refine lv_iconst (v := 5) hx hb dX11_corner_67 rfl ?_
                obtain ⟨hPc, hDc, hFc⟩ := zc_sub (wc := [(om k0 a I0 J0)]) hP hD hS hA [0] rfl rfl
                refine zcall (st1 := [.int (-1)]) (va_runV (As := [.int 5]) (rest := []) ⟨hx, hb, hml, hown, hts⟩ (k_M_refuse l dC dI cI cZ cF H.size k0 a I0 J0 5 (by decide)) (csV_185 hts rfl rfl ⟨Nat.le_of_ble_eq_true rfl, Nat.le_of_ble_eq_true rfl⟩) (zPV2 (q0 := 0) (ci := 9) hPc hDc hK hXN rfl rfl) rfl rfl hl.1 rfl (lv_room (Nat.le_of_ble_eq_true rfl)) dX11_corner_68 ⟨Nat.le_of_ble_eq_true rfl, Nat.le_of_ble_eq_true rfl⟩) hS hFc hFc rfl (fun t H locs ht hB hk1 hS => ?_)
                obtain ⟨hP1, hD1⟩ := hB
                rw [ht] at hP1
                obtain ⟨hP, hD⟩ := zk (W2 := [(om k0 a (upd (upd I0 14 5) 15 (I0 15)) J0), (oa (a 5) cI 201 st), (oa (a 6) cZ 201 tn), (oa (a 11) cI 201 mn), (oa (a 1) cI 201 kd)]) hP hD [0] [1, 2, 3, 4] [1, 2, 3, 4] [0] [4, 0, 1, 2, 3] 5 rfl rfl rfl rfl rfl rfl rfl rfl rfl hk1 hFc hP1 hD1
                clear hk1 hPc hDc hFc hP1 hD1 ht
                obtain ⟨hP9, hD9⟩ := zq_sub (wc := [(om k0 a (upd (upd I0 14 5) 15 (I0 15)) J0), (oa (a 5) cI 201 st), (oa (a 6) cZ 201 tn), (oa (a 11) cI 201 mn), (oa (a 1) cI 201 kd)]) hP hD [0, 1, 2, 3, 4] rfl rfl
                rw [hQ9]
                exact W.iret (v := (-1)) hx hb hr (fun t ht hW => ⟨⟨rfl, 5, by rw [ht]; exact hP9, hD9⟩, hS.F ht⟩) hS.2.2 dX11_corner_71
            · have c_7 : 1000 < py.toInt := zc_nle rfl rfl c_7
              refine lv_aload_n hx hb dX11_corner_51 rfl (lv_at hl 0 rfl) ?_
              refine lv_iconst (v := 4) hx hb dX11_corner_52 rfl ?_
              obtain ⟨hPc, hDc, hFc⟩ := zc_sub (wc := [(om k0 a I0 J0)]) hP hD hS hA [0] rfl rfl
              refine zcall (st1 := [.int (-1)]) (va_runV (As := [.int 4]) (rest := []) ⟨hx, hb, hml, hown, hts⟩ (k_M_refuse l dC dI cI cZ cF H.size k0 a I0 J0 4 (by decide)) (csV_185 hts rfl rfl ⟨Nat.le_of_ble_eq_true rfl, Nat.le_of_ble_eq_true rfl⟩) (zPV2 (q0 := 0) (ci := 9) hPc hDc hK hXN rfl rfl) rfl rfl hl.1 rfl (lv_room (Nat.le_of_ble_eq_true rfl)) dX11_corner_53 ⟨Nat.le_of_ble_eq_true rfl, Nat.le_of_ble_eq_true rfl⟩) hS hFc hFc rfl (fun t H locs ht hB hk1 hS => ?_)
              obtain ⟨hP1, hD1⟩ := hB
              rw [ht] at hP1
              obtain ⟨hP, hD⟩ := zk (W2 := [(om k0 a (upd (upd I0 14 4) 15 (I0 15)) J0), (oa (a 5) cI 201 st), (oa (a 6) cZ 201 tn), (oa (a 11) cI 201 mn), (oa (a 1) cI 201 kd)]) hP hD [0] [1, 2, 3, 4] [1, 2, 3, 4] [0] [4, 0, 1, 2, 3] 5 rfl rfl rfl rfl rfl rfl rfl rfl rfl hk1 hFc hP1 hD1
              clear hk1 hPc hDc hFc hP1 hD1 ht
              obtain ⟨hP9, hD9⟩ := zq_sub (wc := [(om k0 a (upd (upd I0 14 4) 15 (I0 15)) J0), (oa (a 5) cI 201 st), (oa (a 6) cZ 201 tn), (oa (a 11) cI 201 mn), (oa (a 1) cI 201 kd)]) hP hD [0, 1, 2, 3, 4] rfl rfl
              rw [hQ9]
              exact W.iret (v := (-1)) hx hb hr (fun t ht hW => ⟨⟨rfl, 4, by rw [ht]; exact hP9, hD9⟩, hS.F ht⟩) hS.2.2 dX11_corner_56
    · have c_3 : ¬ (st f).toInt = 0 := zc_ne rfl rfl c_3
      refine lv_aload_n hx hb dX11_corner_23 rfl (lv_at hl 0 rfl) ?_
      refine lv_iconst (v := 2) hx hb dX11_corner_24 rfl ?_
      obtain ⟨hPc, hDc, hFc⟩ := zc_sub (wc := [(om k0 a I0 J0)]) hP hD hS hA [0] rfl rfl
      refine zcall (st1 := [.int (-1)]) (va_runV (As := [.int 2]) (rest := []) ⟨hx, hb, hml, hown, hts⟩ (k_M_refuse l dC dI cI cZ cF H.size k0 a I0 J0 2 (by decide)) (csV_185 hts rfl rfl ⟨Nat.le_of_ble_eq_true rfl, Nat.le_of_ble_eq_true rfl⟩) (zPV2 (q0 := 0) (ci := 9) hPc hDc hK hXN rfl rfl) rfl rfl hl.1 rfl (lv_room (Nat.le_of_ble_eq_true rfl)) dX11_corner_25 ⟨Nat.le_of_ble_eq_true rfl, Nat.le_of_ble_eq_true rfl⟩) hS hFc hFc rfl (fun t H locs ht hB hk1 hS => ?_)
      obtain ⟨hP1, hD1⟩ := hB
      rw [ht] at hP1
      obtain ⟨hP, hD⟩ := zk (W2 := [(om k0 a (upd (upd I0 14 2) 15 (I0 15)) J0), (oa (a 5) cI 201 st), (oa (a 6) cZ 201 tn), (oa (a 11) cI 201 mn), (oa (a 1) cI 201 kd)]) hP hD [0] [1, 2, 3, 4] [1, 2, 3, 4] [0] [4, 0, 1, 2, 3] 5 rfl rfl rfl rfl rfl rfl rfl rfl rfl hk1 hFc hP1 hD1
      clear hk1 hPc hDc hFc hP1 hD1 ht
      obtain ⟨hP9, hD9⟩ := zq_sub (wc := [(om k0 a (upd (upd I0 14 2) 15 (I0 15)) J0), (oa (a 5) cI 201 st), (oa (a 6) cZ 201 tn), (oa (a 11) cI 201 mn), (oa (a 1) cI 201 kd)]) hP hD [0, 1, 2, 3, 4] rfl rfl
      rw [hQ9]
      exact W.iret (v := (-1)) hx hb hr (fun t ht hW => ⟨⟨rfl, 2, by rw [ht]; exact hP9, hD9⟩, hS.F ht⟩) hS.2.2 dX11_corner_28
  · have c_1 : ¬ (f < ft) := zp_0 c_1
    exfalso; omega
set_option maxHeartbeats 4000000 in
set_option maxRecDepth 100000 in
theorem k_M_corner_ok (l : Launch) (dC : Nat → ClassId) (dI : Nat → Nat → Nat) (cI cZ cF : ClassId) (sz : Nat) (k0 : Nat) (a : Nat → Nat) (I0 : Nat → Int32) (J0 : Nat → Int64) (f : Nat) (n : Nat) (ft : Nat) (px : Int32) (py : Int32) (st : Nat → Int32) (tn : Nat → Int32) (mn : Nat → Int32) (kd : Nat → Int32) (cx : Nat → Int32) (cy : Nat → Int32) (hft : I0 0 = nI ft) (h200 : ft ≤ 200) (hf_t : f < ft) (hm_f : mn f = nI n) (hn_f : n ≤ 40) (hgood : (st f).toInt = 0 ∧ (0 ≤ px.toInt ∧ px.toInt ≤ 1000 ∧ 0 ≤ py.toInt ∧ py.toInt ≤ 1000) ∧ (tn f).toInt = 0 ∧ ¬ n = cpk (kd f).toInt) : Met l yX11_corner (.code yX11_corner cX11_corner 4 (some .int) :: ws0) ({ frames := 1, cells := 0, slots := 0, locals := 21 } : Room) (va_Pc [.ref k0, .int (nI f), .int px, .int py] (zPre (dC, dI) classes (zTy cI cZ cF) [(om k0 a I0 J0), (oa (a 5) cI 201 st), (oa (a 6) cZ 201 tn), (oa (a 11) cI 201 mn), (oa (a 1) cI 201 kd), (oa (a 12) cI 8040 cx), (oa (a 13) cI 8040 cy)] sz zXN)) (zQ (some (.int (nI (n + 1)))) (fun t => va_P (dC, dI) classes [(om k0 a (upd I0 14 0) J0), (oa (a 5) cI 201 st), (oa (a 6) cZ 201 tn), (oa (a 11) cI 201 (upd mn f (nI (n + 1)))), (oa (a 1) cI 201 kd), (oa (a 12) cI 8040 (upd cx (40 * f + n) px)), (oa (a 13) cI 8040 (upd cy (40 * f + n) py))] t.heap ∧ va_D (va_A [(om k0 a I0 J0), (oa (a 5) cI 201 st), (oa (a 6) cZ 201 tn), (oa (a 11) cI 201 mn), (oa (a 1) cI 201 kd), (oa (a 12) cI 8040 cx), (oa (a 13) cI 8040 cy)] sz) [(om k0 a (upd I0 14 0) J0), (oa (a 5) cI 201 st), (oa (a 6) cZ 201 tn), (oa (a 11) cI 201 (upd mn f (nI (n + 1)))), (oa (a 1) cI 201 kd), (oa (a 12) cI 8040 (upd cx (40 * f + n) px)), (oa (a 13) cI 8040 (upd cy (40 * f + n) py))]) (va_A [(om k0 a I0 J0), (oa (a 5) cI 201 st), (oa (a 6) cZ 201 tn), (oa (a 11) cI 201 mn), (oa (a 1) cI 201 kd), (oa (a 12) cI 8040 cx), (oa (a 13) cI 8040 cy)] sz)) 0 0 (va_A [(om k0 a I0 J0), (oa (a 5) cI 201 st), (oa (a 6) cZ 201 tn), (oa (a 11) cI 201 mn), (oa (a 1) cI 201 kd), (oa (a 12) cI 8040 cx), (oa (a 13) cI 8040 cy)] sz) := by
  refine Met.ofW (cc := cX11_corner) (maxL := 4) (ret := (some .int)) rfl rfl ?_
  intro p e s m args below meth c s₁ B hml hv
  obtain ⟨rfl, hsz, hP, hK, hD0, hXN⟩ := hv
  have hx := B.exec
  have hb := B.bytes
  have hr := B.returns
  have hts0 := atoms_spec (ws := .code yX11_corner cX11_corner 4 (some .int) :: ws0) B.pre
  have hts : ∀ w9 ∈ ws0, w9.before ([.ref k0, .int (nI f), .int px, .int py] : List Value).toArray s = true := fun w9 h => hts0 w9 (List.mem_cons_of_mem _ h)
  have hown : s.vm.findClass "ScaleShopModel" = some m.cls := findClass_of_methodNamed B.named
  have hlocks := B.notSynchronized
  subst hsz
  have hD := hD0.self (sz := s.heap.size)
  clear hD0
  generalize hAe : va_A [(om k0 a I0 J0), (oa (a 5) cI 201 st), (oa (a 6) cZ 201 tn), (oa (a 11) cI 201 mn), (oa (a 1) cI 201 kd), (oa (a 12) cI 8040 cx), (oa (a 13) cI 8040 cy)] s.heap.size = A at hD ⊢
  have hA : ∀ q : Nat, s.heap.size ≤ q → A q := fun q h => by rw [← hAe]; exact Or.inr h
  clear hAe
  have hS : va_S A s.heap s.heap [] := va_S.rf
  have hP : va_P (dC, dI) classes [(om k0 a I0 J0), (oa (a 5) cI 201 st), (oa (a 6) cZ 201 tn), (oa (a 11) cI 201 mn), (oa (a 1) cI 201 kd), (oa (a 12) cI 8040 cx), (oa (a 13) cI 8040 cy)] s.heap := hP
  obtain ⟨Q9, hQ9⟩ : ∃ Q9 : State → Prop, Q9 = MQ below (zQ (some (.int (nI (n + 1)))) (fun t => va_P (dC, dI) classes [(om k0 a (upd I0 14 0) J0), (oa (a 5) cI 201 st), (oa (a 6) cZ 201 tn), (oa (a 11) cI 201 (upd mn f (nI (n + 1)))), (oa (a 1) cI 201 kd), (oa (a 12) cI 8040 (upd cx (40 * f + n) px)), (oa (a 13) cI 8040 (upd cy (40 * f + n) py))] t.heap ∧ va_D A [(om k0 a (upd I0 14 0) J0), (oa (a 5) cI 201 st), (oa (a 6) cZ 201 tn), (oa (a 11) cI 201 (upd mn f (nI (n + 1)))), (oa (a 1) cI 201 kd), (oa (a 12) cI 8040 (upd cx (40 * f + n) px)), (oa (a 13) cI 8040 (upd cy (40 * f + n) py))]) A) ([.ref k0, .int (nI f), .int px, .int py] : List Value).toArray s 0 0 A := ⟨_, rfl⟩
  rw [← hQ9]
  have hl := lv_entry ([.ref k0, .int (nI f), .int px, .int py]) (n := 4) (Nat.le_of_ble_eq_true rfl)
  rw [lg_entry_eq]
  generalize (lg_sl ([.ref k0, .int (nI f), .int px, .int py]) ++ List.replicate (4 - (lg_sl ([.ref k0, .int (nI f), .int px, .int py])).length) Slot.unset).toArray = ls at hl ⊢
  have hl : lv_has ls 4 [(0, .ref k0), (1, .int (nI f)), (2, .int px), (3, .int py)] := hl
  have hcp := cpk_s (kd f).toInt
  refine lv_aload_n hx hb dX11_corner_0 rfl (lv_at hl 0 rfl) ?_
  refine lv_iload_n hx hb dX11_corner_1 rfl (lv_at hl 1 rfl) ?_
  obtain ⟨hPc, hDc, hFc⟩ := zc_sub (wc := [(om k0 a I0 J0)]) hP hD hS hA [0] rfl rfl
  refine zcall (st1 := [.int (pI (f < ft))]) (va_runV (As := [.int (nI f)]) (rest := []) ⟨hx, hb, hml, hown, hts⟩ (k_M_isFeature_n l dC dI cI cZ cF s.heap.size k0 a I0 J0 f ft (by first | with_reducible assumption | assumption) (by first | with_reducible assumption | omega) (by first | with_reducible assumption | omega)) (csV_178 hts rfl rfl ⟨Nat.le_of_ble_eq_true rfl, Nat.le_of_ble_eq_true rfl⟩) (zPV2 (q0 := 0) (ci := 9) hPc hDc hK hXN rfl rfl) rfl rfl hl.1 rfl (lv_room (Nat.le_of_ble_eq_true rfl)) dX11_corner_2 ⟨Nat.le_of_ble_eq_true rfl, Nat.le_of_ble_eq_true rfl⟩) hS hFc hFc rfl (fun t H locs ht hB hk1 hS => ?_)
  obtain ⟨hP1, hD1⟩ := hB
  rw [ht] at hP1
  obtain ⟨hP, hD⟩ := zk (W2 := [(om k0 a I0 J0), (oa (a 5) cI 201 st), (oa (a 6) cZ 201 tn), (oa (a 11) cI 201 mn), (oa (a 1) cI 201 kd), (oa (a 12) cI 8040 cx), (oa (a 13) cI 8040 cy)]) hP hD [0] [1, 2, 3, 4, 5, 6] [1, 2, 3, 4, 5, 6] [0] [6, 0, 1, 2, 3, 4, 5] 7 rfl rfl rfl rfl rfl rfl rfl rfl rfl hk1 hFc hP1 hD1
  clear hk1 hPc hDc hFc hP1 hD1 ht
  refine lv_if_ne (tgt := 14) hx hb dX11_corner_5 rfl (fun c_1 => ?_) (fun c_1 => ?_)
  · have c_1 : f < ft := zp_1 c_1
    refine lv_aload_n hx hb dX11_corner_14 rfl (lv_at hl 0 rfl) ?_
    refine va_get (D := (dC, dI)) (ci := 9) (v := .ref (a 5)) (C := RX11) (T := TX11) (N := 55) hx hb hts inX11 hown hK hP 0 rfl rfl 5 (Nat.le_of_ble_eq_true rfl) (hts _ mw_1164) (fun _ h9 => h9) rfl dX11_corner_15 ?_
    refine lv_iload_n hx hb dX11_corner_18 rfl (lv_at hl 1 rfl) ?_
    have b9_2 : f < 201 := by omega
    refine z_iald hx hb hK hP 1 0 rfl rfl (e := f) rfl b9_2 (Nat.le_of_ble_eq_true rfl) dX11_corner_19 ?_
    refine lv_if_eq (tgt := 29) hx hb dX11_corner_20 rfl (fun c_3 => ?_) (fun c_3 => ?_)
    · have c_3 : (st f).toInt = 0 := zc_eq rfl rfl c_3
      refine lv_iload_n hx hb dX11_corner_29 rfl (lv_at hl 2 rfl) ?_
      refine lv_if_lt (tgt := 51) hx hb dX11_corner_30 rfl (fun c_4 => ?_) (fun c_4 => ?_)
      · have c_4 : px.toInt < 0 := zc_lt rfl rfl c_4
        exfalso; omega
      · have c_4 : 0 ≤ px.toInt := zc_nlt rfl rfl c_4
        refine lv_iload_n hx hb dX11_corner_33 rfl (lv_at hl 2 rfl) ?_
        refine lv_sipush (v := 1000) hx hb dX11_corner_34 rfl ?_
        refine lv_icmp_gt (tgt := 51) hx hb dX11_corner_37 rfl (fun c_5 => ?_) (fun c_5 => ?_)
        · have c_5 : 1000 < px.toInt := zc_lt rfl rfl c_5
          exfalso; omega
        · have c_5 : px.toInt ≤ 1000 := zc_nlt rfl rfl c_5
          refine lv_iload_n hx hb dX11_corner_40 rfl (lv_at hl 3 rfl) ?_
          refine lv_if_lt (tgt := 51) hx hb dX11_corner_41 rfl (fun c_6 => ?_) (fun c_6 => ?_)
          · have c_6 : py.toInt < 0 := zc_lt rfl rfl c_6
            exfalso; omega
          · have c_6 : 0 ≤ py.toInt := zc_nlt rfl rfl c_6
            refine lv_iload_n hx hb dX11_corner_44 rfl (lv_at hl 3 rfl) ?_
            refine lv_sipush (v := 1000) hx hb dX11_corner_45 rfl ?_
            refine lv_icmp_le (tgt := 57) hx hb dX11_corner_48 rfl (fun c_7 => ?_) (fun c_7 => ?_)
            · have c_7 : py.toInt ≤ 1000 := zc_le rfl rfl c_7
              refine lv_aload_n hx hb dX11_corner_57 rfl (lv_at hl 0 rfl) ?_
              refine va_get (D := (dC, dI)) (ci := 9) (v := .ref (a 6)) (C := RX11) (T := TX11) (N := 55) hx hb hts inX11 hown hK hP 0 rfl rfl 6 (Nat.le_of_ble_eq_true rfl) (hts _ mw_1165) (fun _ h9 => h9) rfl dX11_corner_58 ?_
              refine lv_iload_n hx hb dX11_corner_61 rfl (lv_at hl 1 rfl) ?_
              refine z_zald hx hb hK hP 2 1 rfl rfl (e := f) rfl b9_2 (Nat.le_of_ble_eq_true rfl) dX11_corner_62 ?_
              refine lv_if_eq (tgt := 72) hx hb dX11_corner_63 rfl (fun c_8 => ?_) (fun c_8 => ?_)
              · have c_8 : (tn f).toInt = 0 := zc_eq rfl rfl c_8
                refine lv_aload_n hx hb dX11_corner_72 rfl (lv_at hl 0 rfl) ?_
                refine va_get (D := (dC, dI)) (ci := 9) (v := .ref (a 11)) (C := RX11) (T := TX11) (N := 55) hx hb hts inX11 hown hK hP 0 rfl rfl 11 (Nat.le_of_ble_eq_true rfl) (hts _ mw_1170) (fun _ h9 => h9) rfl dX11_corner_73 ?_
                refine lv_iload_n hx hb dX11_corner_76 rfl (lv_at hl 1 rfl) ?_
                refine z_iald hx hb hK hP 3 0 rfl rfl (e := f) rfl b9_2 (Nat.le_of_ble_eq_true rfl) dX11_corner_77 ?_
                refine zz_i (v := nI n) (hm_f) ?_
                refine lv_aload_n hx hb dX11_corner_78 rfl (lv_at hl 0 rfl) ?_
                refine va_get (D := (dC, dI)) (ci := 9) (v := .ref (a 1)) (C := RX11) (T := TX11) (N := 55) hx hb hts inX11 hown hK hP 0 rfl rfl 1 (Nat.le_of_ble_eq_true rfl) (hts _ mw_1160) (fun _ h9 => h9) rfl dX11_corner_79 ?_
                refine lv_iload_n hx hb dX11_corner_82 rfl (lv_at hl 1 rfl) ?_
                refine z_iald hx hb hK hP 4 0 rfl rfl (e := f) rfl b9_2 (Nat.le_of_ble_eq_true rfl) dX11_corner_83 ?_
                refine lv_if_ne (tgt := 91) hx hb dX11_corner_84 rfl (fun c_9 => ?_) (fun c_9 => ?_)
                · have c_9 : ¬ (kd f).toInt = 0 := zc_ne rfl rfl c_9
                  refine lv_bipush (v := 40) hx hb dX11_corner_91 rfl ?_
                  have b9_11 : n < 2147483648 := by omega
                  refine lv_icmp_ne (tgt := 103) hx hb dX11_corner_93 rfl (fun c_10 => ?_) (fun c_10 => ?_)
                  · have c_10 : ¬ ((n : Nat) : Int) = 40 := zc_ne (nI_toInt b9_11) rfl c_10
                    refine lv_aload_n hx hb dX11_corner_103 rfl (lv_at hl 0 rfl) ?_
                    refine va_get (D := (dC, dI)) (ci := 9) (v := .ref (a 12)) (C := RX11) (T := TX11) (N := 55) hx hb hts inX11 hown hK hP 0 rfl rfl 12 (Nat.le_of_ble_eq_true rfl) (hts _ mw_1171) (fun _ h9 => h9) rfl dX11_corner_104 ?_
                    refine lv_bipush (v := 40) hx hb dX11_corner_107 rfl ?_
                    refine lv_iload_n hx hb dX11_corner_109 rfl (lv_at hl 1 rfl) ?_
                    refine lv_imul hx hb dX11_corner_110 ?_
                    refine zz_i (v := nI (40 * f)) (pk_mul 40 f) ?_
                    refine lv_aload_n hx hb dX11_corner_111 rfl (lv_at hl 0 rfl) ?_
                    refine va_get (D := (dC, dI)) (ci := 9) (v := .ref (a 11)) (C := RX11) (T := TX11) (N := 55) hx hb hts inX11 hown hK hP 0 rfl rfl 11 (Nat.le_of_ble_eq_true rfl) (hts _ mw_1170) (fun _ h9 => h9) rfl dX11_corner_112 ?_
                    refine lv_iload_n hx hb dX11_corner_115 rfl (lv_at hl 1 rfl) ?_
                    refine z_iald hx hb hK hP 3 0 rfl rfl (e := f) rfl b9_2 (Nat.le_of_ble_eq_true rfl) dX11_corner_116 ?_
                    refine zz_i (v := nI n) (hm_f) ?_
                    refine lv_iadd hx hb dX11_corner_117 ?_
                    refine zz_i (v := nI (40 * f + n)) (nI_add (40 * f) n) ?_
                    refine lv_iload_n hx hb dX11_corner_118 rfl (lv_at hl 2 rfl) ?_
                    have b9_12 : 40 * f + n < 8040 := by omega
                    refine z_iast hx hb hK hP hD hS 5 0 rfl rfl (e := 40 * f + n) (x := px) rfl b9_12 (Nat.le_of_ble_eq_true rfl) dX11_corner_119 (fun H locs hP hD hS => ?_)
                    obtain ⟨hP, hD⟩ : zPD (dC, dI) classes A [(om k0 a I0 J0), (oa (a 5) cI 201 st), (oa (a 6) cZ 201 tn), (oa (a 11) cI 201 mn), (oa (a 1) cI 201 kd), (oa (a 12) cI 8040 (upd cx (40 * f + n) px)), (oa (a 13) cI 8040 cy)] H := ⟨hP, hD⟩
                    refine lv_aload_n hx hb dX11_corner_120 rfl (lv_at hl 0 rfl) ?_
                    refine va_get (D := (dC, dI)) (ci := 9) (v := .ref (a 13)) (C := RX11) (T := TX11) (N := 55) hx hb hts inX11 hown hK hP 0 rfl rfl 13 (Nat.le_of_ble_eq_true rfl) (hts _ mw_1172) (fun _ h9 => h9) rfl dX11_corner_121 ?_
                    refine lv_bipush (v := 40) hx hb dX11_corner_124 rfl ?_
                    refine lv_iload_n hx hb dX11_corner_126 rfl (lv_at hl 1 rfl) ?_
                    refine lv_imul hx hb dX11_corner_127 ?_
                    refine zz_i (v := nI (40 * f)) (pk_mul 40 f) ?_
                    refine lv_aload_n hx hb dX11_corner_128 rfl (lv_at hl 0 rfl) ?_
                    refine va_get (D := (dC, dI)) (ci := 9) (v := .ref (a 11)) (C := RX11) (T := TX11) (N := 55) hx hb hts inX11 hown hK hP 0 rfl rfl 11 (Nat.le_of_ble_eq_true rfl) (hts _ mw_1170) (fun _ h9 => h9) rfl dX11_corner_129 ?_
                    refine lv_iload_n hx hb dX11_corner_132 rfl (lv_at hl 1 rfl) ?_
                    refine z_iald hx hb hK hP 3 0 rfl rfl (e := f) rfl b9_2 (Nat.le_of_ble_eq_true rfl) dX11_corner_133 ?_
                    refine zz_i (v := nI n) (hm_f) ?_
                    refine lv_iadd hx hb dX11_corner_134 ?_
                    refine zz_i (v := nI (40 * f + n)) (nI_add (40 * f) n) ?_
                    refine lv_iload_n hx hb dX11_corner_135 rfl (lv_at hl 3 rfl) ?_
                    refine z_iast hx hb hK hP hD hS 6 0 rfl rfl (e := 40 * f + n) (x := py) rfl b9_12 (Nat.le_of_ble_eq_true rfl) dX11_corner_136 (fun H locs hP hD hS => ?_)
                    obtain ⟨hP, hD⟩ : zPD (dC, dI) classes A [(om k0 a I0 J0), (oa (a 5) cI 201 st), (oa (a 6) cZ 201 tn), (oa (a 11) cI 201 mn), (oa (a 1) cI 201 kd), (oa (a 12) cI 8040 (upd cx (40 * f + n) px)), (oa (a 13) cI 8040 (upd cy (40 * f + n) py))] H := ⟨hP, hD⟩
                    refine lv_aload_n hx hb dX11_corner_137 rfl (lv_at hl 0 rfl) ?_
                    refine va_get (D := (dC, dI)) (ci := 9) (v := .ref (a 11)) (C := RX11) (T := TX11) (N := 55) hx hb hts inX11 hown hK hP 0 rfl rfl 11 (Nat.le_of_ble_eq_true rfl) (hts _ mw_1170) (fun _ h9 => h9) rfl dX11_corner_138 ?_
                    refine lv_iload_n hx hb dX11_corner_141 rfl (lv_at hl 1 rfl) ?_
                    refine lv_dup2_11 hx hb dX11_corner_142 rfl rfl ?_
                    refine z_iald hx hb hK hP 3 0 rfl rfl (e := f) rfl b9_2 (Nat.le_of_ble_eq_true rfl) dX11_corner_143 ?_
                    refine zz_i (v := nI n) (hm_f) ?_
                    refine lv_iconst (v := 1) hx hb dX11_corner_144 rfl ?_
                    refine lv_iadd hx hb dX11_corner_145 ?_
                    refine zz_i (v := nI (n + 1)) (nI_add n 1) ?_
                    refine z_iast hx hb hK hP hD hS 3 0 rfl rfl (e := f) (x := nI (n + 1)) rfl b9_2 (Nat.le_of_ble_eq_true rfl) dX11_corner_146 (fun H locs hP hD hS => ?_)
                    obtain ⟨hP, hD⟩ : zPD (dC, dI) classes A [(om k0 a I0 J0), (oa (a 5) cI 201 st), (oa (a 6) cZ 201 tn), (oa (a 11) cI 201 (upd mn f (nI (n + 1)))), (oa (a 1) cI 201 kd), (oa (a 12) cI 8040 (upd cx (40 * f + n) px)), (oa (a 13) cI 8040 (upd cy (40 * f + n) py))] H := ⟨hP, hD⟩
                    refine lv_aload_n hx hb dX11_corner_147 rfl (lv_at hl 0 rfl) ?_
                    refine lv_iconst (v := 0) hx hb dX11_corner_148 rfl ?_
                    refine va_put (D := (dC, dI)) (ci := 9) (v := .int 0) (ty := .int) (C := RX11) (T := TX11) (N := 55) hx hb hts inX11 tyX11 tyX11_ok nmX11 hown hK hP hD hS 0 rfl rfl 14 (by decide) (hts _ mw_1173) (fun _ h9 => h9) rfl (by decide +kernel) rfl rfl (Nat.le_of_ble_eq_true rfl) dX11_corner_149 (fun H locs hP hD hS => ?_)
                    obtain ⟨hP, hD⟩ : zPD (dC, dI) classes A [(om k0 a (upd I0 14 0) J0), (oa (a 5) cI 201 st), (oa (a 6) cZ 201 tn), (oa (a 11) cI 201 (upd mn f (nI (n + 1)))), (oa (a 1) cI 201 kd), (oa (a 12) cI 8040 (upd cx (40 * f + n) px)), (oa (a 13) cI 8040 (upd cy (40 * f + n) py))] H := ⟨hP, hD⟩
                    refine lv_aload_n hx hb dX11_corner_152 rfl (lv_at hl 0 rfl) ?_
                    refine va_get (D := (dC, dI)) (ci := 9) (v := .ref (a 11)) (C := RX11) (T := TX11) (N := 55) hx hb hts inX11 hown hK hP 0 rfl rfl 11 (Nat.le_of_ble_eq_true rfl) (hts _ mw_1170) (fun _ h9 => h9) rfl dX11_corner_153 ?_
                    refine lv_iload_n hx hb dX11_corner_156 rfl (lv_at hl 1 rfl) ?_
                    refine z_iald hx hb hK hP 3 0 rfl rfl (e := f) rfl b9_2 (Nat.le_of_ble_eq_true rfl) dX11_corner_157 ?_
                    refine zz_i (v := nI (n + 1)) (up_at _ _ _) ?_
                    obtain ⟨hP9, hD9⟩ := zq_sub (wc := [(om k0 a (upd I0 14 0) J0), (oa (a 5) cI 201 st), (oa (a 6) cZ 201 tn), (oa (a 11) cI 201 (upd mn f (nI (n + 1)))), (oa (a 1) cI 201 kd), (oa (a 12) cI 8040 (upd cx (40 * f + n) px)), (oa (a 13) cI 8040 (upd cy (40 * f + n) py))]) hP hD [0, 1, 2, 3, 4, 5, 6] rfl rfl
                    rw [hQ9]
                    exact W.iret (v := nI (n + 1)) hx hb hr (fun t ht hW => ⟨⟨rfl, by rw [ht]; exact hP9, hD9⟩, hS.F ht⟩) hS.2.2 dX11_corner_158
                  · have c_10 : ((n : Nat) : Int) = 40 := zc_eq (nI_toInt b9_11) rfl c_10
                    exfalso; omega
                · have c_9 : (kd f).toInt = 0 := zc_eq rfl rfl c_9
                  refine lv_iconst (v := 1) hx hb dX11_corner_87 rfl ?_
                  refine lv_goto (tgt := 93) hx hb dX11_corner_88 rfl ?_
                  have b9_14 : n < 2147483648 := by omega
                  refine lv_icmp_ne (tgt := 103) hx hb dX11_corner_93 rfl (fun c_13 => ?_) (fun c_13 => ?_)
                  · have c_13 : ¬ ((n : Nat) : Int) = 1 := zc_ne (nI_toInt b9_14) rfl c_13
                    refine lv_aload_n hx hb dX11_corner_103 rfl (lv_at hl 0 rfl) ?_
                    refine va_get (D := (dC, dI)) (ci := 9) (v := .ref (a 12)) (C := RX11) (T := TX11) (N := 55) hx hb hts inX11 hown hK hP 0 rfl rfl 12 (Nat.le_of_ble_eq_true rfl) (hts _ mw_1171) (fun _ h9 => h9) rfl dX11_corner_104 ?_
                    refine lv_bipush (v := 40) hx hb dX11_corner_107 rfl ?_
                    refine lv_iload_n hx hb dX11_corner_109 rfl (lv_at hl 1 rfl) ?_
                    refine lv_imul hx hb dX11_corner_110 ?_
                    refine zz_i (v := nI (40 * f)) (pk_mul 40 f) ?_
                    refine lv_aload_n hx hb dX11_corner_111 rfl (lv_at hl 0 rfl) ?_
                    refine va_get (D := (dC, dI)) (ci := 9) (v := .ref (a 11)) (C := RX11) (T := TX11) (N := 55) hx hb hts inX11 hown hK hP 0 rfl rfl 11 (Nat.le_of_ble_eq_true rfl) (hts _ mw_1170) (fun _ h9 => h9) rfl dX11_corner_112 ?_
                    refine lv_iload_n hx hb dX11_corner_115 rfl (lv_at hl 1 rfl) ?_
                    refine z_iald hx hb hK hP 3 0 rfl rfl (e := f) rfl b9_2 (Nat.le_of_ble_eq_true rfl) dX11_corner_116 ?_
                    refine zz_i (v := nI n) (hm_f) ?_
                    refine lv_iadd hx hb dX11_corner_117 ?_
                    refine zz_i (v := nI (40 * f + n)) (nI_add (40 * f) n) ?_
                    refine lv_iload_n hx hb dX11_corner_118 rfl (lv_at hl 2 rfl) ?_
                    have b9_15 : 40 * f + n < 8040 := by omega
                    refine z_iast hx hb hK hP hD hS 5 0 rfl rfl (e := 40 * f + n) (x := px) rfl b9_15 (Nat.le_of_ble_eq_true rfl) dX11_corner_119 (fun H locs hP hD hS => ?_)
                    obtain ⟨hP, hD⟩ : zPD (dC, dI) classes A [(om k0 a I0 J0), (oa (a 5) cI 201 st), (oa (a 6) cZ 201 tn), (oa (a 11) cI 201 mn), (oa (a 1) cI 201 kd), (oa (a 12) cI 8040 (upd cx (40 * f + n) px)), (oa (a 13) cI 8040 cy)] H := ⟨hP, hD⟩
                    refine lv_aload_n hx hb dX11_corner_120 rfl (lv_at hl 0 rfl) ?_
                    refine va_get (D := (dC, dI)) (ci := 9) (v := .ref (a 13)) (C := RX11) (T := TX11) (N := 55) hx hb hts inX11 hown hK hP 0 rfl rfl 13 (Nat.le_of_ble_eq_true rfl) (hts _ mw_1172) (fun _ h9 => h9) rfl dX11_corner_121 ?_
                    refine lv_bipush (v := 40) hx hb dX11_corner_124 rfl ?_
                    refine lv_iload_n hx hb dX11_corner_126 rfl (lv_at hl 1 rfl) ?_
                    refine lv_imul hx hb dX11_corner_127 ?_
                    refine zz_i (v := nI (40 * f)) (pk_mul 40 f) ?_
                    refine lv_aload_n hx hb dX11_corner_128 rfl (lv_at hl 0 rfl) ?_
                    refine va_get (D := (dC, dI)) (ci := 9) (v := .ref (a 11)) (C := RX11) (T := TX11) (N := 55) hx hb hts inX11 hown hK hP 0 rfl rfl 11 (Nat.le_of_ble_eq_true rfl) (hts _ mw_1170) (fun _ h9 => h9) rfl dX11_corner_129 ?_
                    refine lv_iload_n hx hb dX11_corner_132 rfl (lv_at hl 1 rfl) ?_
                    refine z_iald hx hb hK hP 3 0 rfl rfl (e := f) rfl b9_2 (Nat.le_of_ble_eq_true rfl) dX11_corner_133 ?_
                    refine zz_i (v := nI n) (hm_f) ?_
                    refine lv_iadd hx hb dX11_corner_134 ?_
                    refine zz_i (v := nI (40 * f + n)) (nI_add (40 * f) n) ?_
                    refine lv_iload_n hx hb dX11_corner_135 rfl (lv_at hl 3 rfl) ?_
                    refine z_iast hx hb hK hP hD hS 6 0 rfl rfl (e := 40 * f + n) (x := py) rfl b9_15 (Nat.le_of_ble_eq_true rfl) dX11_corner_136 (fun H locs hP hD hS => ?_)
                    obtain ⟨hP, hD⟩ : zPD (dC, dI) classes A [(om k0 a I0 J0), (oa (a 5) cI 201 st), (oa (a 6) cZ 201 tn), (oa (a 11) cI 201 mn), (oa (a 1) cI 201 kd), (oa (a 12) cI 8040 (upd cx (40 * f + n) px)), (oa (a 13) cI 8040 (upd cy (40 * f + n) py))] H := ⟨hP, hD⟩
                    refine lv_aload_n hx hb dX11_corner_137 rfl (lv_at hl 0 rfl) ?_
                    refine va_get (D := (dC, dI)) (ci := 9) (v := .ref (a 11)) (C := RX11) (T := TX11) (N := 55) hx hb hts inX11 hown hK hP 0 rfl rfl 11 (Nat.le_of_ble_eq_true rfl) (hts _ mw_1170) (fun _ h9 => h9) rfl dX11_corner_138 ?_
                    refine lv_iload_n hx hb dX11_corner_141 rfl (lv_at hl 1 rfl) ?_
                    refine lv_dup2_11 hx hb dX11_corner_142 rfl rfl ?_
                    refine z_iald hx hb hK hP 3 0 rfl rfl (e := f) rfl b9_2 (Nat.le_of_ble_eq_true rfl) dX11_corner_143 ?_
                    refine zz_i (v := nI n) (hm_f) ?_
                    refine lv_iconst (v := 1) hx hb dX11_corner_144 rfl ?_
                    refine lv_iadd hx hb dX11_corner_145 ?_
                    refine zz_i (v := nI (n + 1)) (nI_add n 1) ?_
                    refine z_iast hx hb hK hP hD hS 3 0 rfl rfl (e := f) (x := nI (n + 1)) rfl b9_2 (Nat.le_of_ble_eq_true rfl) dX11_corner_146 (fun H locs hP hD hS => ?_)
                    obtain ⟨hP, hD⟩ : zPD (dC, dI) classes A [(om k0 a I0 J0), (oa (a 5) cI 201 st), (oa (a 6) cZ 201 tn), (oa (a 11) cI 201 (upd mn f (nI (n + 1)))), (oa (a 1) cI 201 kd), (oa (a 12) cI 8040 (upd cx (40 * f + n) px)), (oa (a 13) cI 8040 (upd cy (40 * f + n) py))] H := ⟨hP, hD⟩
                    refine lv_aload_n hx hb dX11_corner_147 rfl (lv_at hl 0 rfl) ?_
                    refine lv_iconst (v := 0) hx hb dX11_corner_148 rfl ?_
                    refine va_put (D := (dC, dI)) (ci := 9) (v := .int 0) (ty := .int) (C := RX11) (T := TX11) (N := 55) hx hb hts inX11 tyX11 tyX11_ok nmX11 hown hK hP hD hS 0 rfl rfl 14 (by decide) (hts _ mw_1173) (fun _ h9 => h9) rfl (by decide +kernel) rfl rfl (Nat.le_of_ble_eq_true rfl) dX11_corner_149 (fun H locs hP hD hS => ?_)
                    obtain ⟨hP, hD⟩ : zPD (dC, dI) classes A [(om k0 a (upd I0 14 0) J0), (oa (a 5) cI 201 st), (oa (a 6) cZ 201 tn), (oa (a 11) cI 201 (upd mn f (nI (n + 1)))), (oa (a 1) cI 201 kd), (oa (a 12) cI 8040 (upd cx (40 * f + n) px)), (oa (a 13) cI 8040 (upd cy (40 * f + n) py))] H := ⟨hP, hD⟩
                    refine lv_aload_n hx hb dX11_corner_152 rfl (lv_at hl 0 rfl) ?_
                    refine va_get (D := (dC, dI)) (ci := 9) (v := .ref (a 11)) (C := RX11) (T := TX11) (N := 55) hx hb hts inX11 hown hK hP 0 rfl rfl 11 (Nat.le_of_ble_eq_true rfl) (hts _ mw_1170) (fun _ h9 => h9) rfl dX11_corner_153 ?_
                    refine lv_iload_n hx hb dX11_corner_156 rfl (lv_at hl 1 rfl) ?_
                    refine z_iald hx hb hK hP 3 0 rfl rfl (e := f) rfl b9_2 (Nat.le_of_ble_eq_true rfl) dX11_corner_157 ?_
                    refine zz_i (v := nI (n + 1)) (up_at _ _ _) ?_
                    obtain ⟨hP9, hD9⟩ := zq_sub (wc := [(om k0 a (upd I0 14 0) J0), (oa (a 5) cI 201 st), (oa (a 6) cZ 201 tn), (oa (a 11) cI 201 (upd mn f (nI (n + 1)))), (oa (a 1) cI 201 kd), (oa (a 12) cI 8040 (upd cx (40 * f + n) px)), (oa (a 13) cI 8040 (upd cy (40 * f + n) py))]) hP hD [0, 1, 2, 3, 4, 5, 6] rfl rfl
                    rw [hQ9]
                    exact W.iret (v := nI (n + 1)) hx hb hr (fun t ht hW => ⟨⟨rfl, by rw [ht]; exact hP9, hD9⟩, hS.F ht⟩) hS.2.2 dX11_corner_158
                  · have c_13 : ((n : Nat) : Int) = 1 := zc_eq (nI_toInt b9_14) rfl c_13
                    exfalso; omega
              · have c_8 : ¬ (tn f).toInt = 0 := zc_ne rfl rfl c_8
                exfalso; omega
            · have c_7 : 1000 < py.toInt := zc_nle rfl rfl c_7
              exfalso; omega
    · have c_3 : ¬ (st f).toInt = 0 := zc_ne rfl rfl c_3
      exfalso; omega
  · have c_1 : ¬ (f < ft) := zp_0 c_1
    exfalso; omega
set_option maxHeartbeats 4000000 in
set_option maxRecDepth 100000 in
theorem k_M_tear_r (l : Launch) (dC : Nat → ClassId) (dI : Nat → Nat → Nat) (cI cZ cF : ClassId) (sz : Nat) (k0 : Nat) (a : Nat → Nat) (I0 : Nat → Int32) (J0 : Nat → Int64) (f : Nat) (ft : Nat) (st : Nat → Int32) (tn : Nat → Int32) (hft : I0 0 = nI ft) (h200 : ft ≤ 200) (hf_t : f < ft) (hbad : ¬ (¬ (st f).toInt = 2 ∧ (tn f).toInt = 0)) : Met l yX11_tear (.code yX11_tear cX11_tear 2 (some .boolean) :: ws0) ({ frames := 2, cells := 0, slots := 0, locals := 42 } : Room) (va_Pc [.ref k0, .int (nI f)] (zPre (dC, dI) classes (zTy cI cZ cF) [(om k0 a I0 J0), (oa (a 5) cI 201 st), (oa (a 6) cZ 201 tn)] sz zXN)) (zQ (some (.int 0)) (fun t => ∃ (z9 : Int32), va_P (dC, dI) classes [(om k0 a (upd (upd I0 14 z9) 15 (I0 15)) J0), (oa (a 5) cI 201 st), (oa (a 6) cZ 201 tn)] t.heap ∧ va_D (va_A [(om k0 a I0 J0), (oa (a 5) cI 201 st), (oa (a 6) cZ 201 tn)] sz) [(om k0 a (upd (upd I0 14 z9) 15 (I0 15)) J0), (oa (a 5) cI 201 st), (oa (a 6) cZ 201 tn)]) (va_A [(om k0 a I0 J0), (oa (a 5) cI 201 st), (oa (a 6) cZ 201 tn)] sz)) 0 0 (va_A [(om k0 a I0 J0), (oa (a 5) cI 201 st), (oa (a 6) cZ 201 tn)] sz) := by
  refine Met.ofW (cc := cX11_tear) (maxL := 2) (ret := (some .boolean)) rfl rfl ?_
  intro p e s m args below meth c s₁ B hml hv
  obtain ⟨rfl, hsz, hP, hK, hD0, hXN⟩ := hv
  have hx := B.exec
  have hb := B.bytes
  have hr := B.returns
  have hts0 := atoms_spec (ws := .code yX11_tear cX11_tear 2 (some .boolean) :: ws0) B.pre
  have hts : ∀ w9 ∈ ws0, w9.before ([.ref k0, .int (nI f)] : List Value).toArray s = true := fun w9 h => hts0 w9 (List.mem_cons_of_mem _ h)
  have hown : s.vm.findClass "ScaleShopModel" = some m.cls := findClass_of_methodNamed B.named
  have hlocks := B.notSynchronized
  subst hsz
  have hD := hD0.self (sz := s.heap.size)
  clear hD0
  generalize hAe : va_A [(om k0 a I0 J0), (oa (a 5) cI 201 st), (oa (a 6) cZ 201 tn)] s.heap.size = A at hD ⊢
  have hA : ∀ q : Nat, s.heap.size ≤ q → A q := fun q h => by rw [← hAe]; exact Or.inr h
  clear hAe
  have hS : va_S A s.heap s.heap [] := va_S.rf
  have hP : va_P (dC, dI) classes [(om k0 a I0 J0), (oa (a 5) cI 201 st), (oa (a 6) cZ 201 tn)] s.heap := hP
  obtain ⟨Q9, hQ9⟩ : ∃ Q9 : State → Prop, Q9 = MQ below (zQ (some (.int 0)) (fun t => ∃ (z9 : Int32), va_P (dC, dI) classes [(om k0 a (upd (upd I0 14 z9) 15 (I0 15)) J0), (oa (a 5) cI 201 st), (oa (a 6) cZ 201 tn)] t.heap ∧ va_D A [(om k0 a (upd (upd I0 14 z9) 15 (I0 15)) J0), (oa (a 5) cI 201 st), (oa (a 6) cZ 201 tn)]) A) ([.ref k0, .int (nI f)] : List Value).toArray s 0 0 A := ⟨_, rfl⟩
  rw [← hQ9]
  have hl := lv_entry ([.ref k0, .int (nI f)]) (n := 2) (Nat.le_of_ble_eq_true rfl)
  rw [lg_entry_eq]
  generalize (lg_sl ([.ref k0, .int (nI f)]) ++ List.replicate (2 - (lg_sl ([.ref k0, .int (nI f)])).length) Slot.unset).toArray = ls at hl ⊢
  have hl : lv_has ls 2 [(0, .ref k0), (1, .int (nI f))] := hl
  refine lv_aload_n hx hb dX11_tear_0 rfl (lv_at hl 0 rfl) ?_
  refine lv_iload_n hx hb dX11_tear_1 rfl (lv_at hl 1 rfl) ?_
  obtain ⟨hPc, hDc, hFc⟩ := zc_sub (wc := [(om k0 a I0 J0)]) hP hD hS hA [0] rfl rfl
  refine zcall (st1 := [.int (pI (f < ft))]) (va_runV (As := [.int (nI f)]) (rest := []) ⟨hx, hb, hml, hown, hts⟩ (k_M_isFeature_n l dC dI cI cZ cF s.heap.size k0 a I0 J0 f ft (by first | with_reducible assumption | assumption) (by first | with_reducible assumption | omega) (by first | with_reducible assumption | omega)) (csV_178 hts rfl rfl ⟨Nat.le_of_ble_eq_true rfl, Nat.le_of_ble_eq_true rfl⟩) (zPV2 (q0 := 0) (ci := 9) hPc hDc hK hXN rfl rfl) rfl rfl hl.1 rfl (lv_room (Nat.le_of_ble_eq_true rfl)) dX11_tear_2 ⟨Nat.le_of_ble_eq_true rfl, Nat.le_of_ble_eq_true rfl⟩) hS hFc hFc rfl (fun t H locs ht hB hk1 hS => ?_)
  obtain ⟨hP1, hD1⟩ := hB
  rw [ht] at hP1
  obtain ⟨hP, hD⟩ := zk (W2 := [(om k0 a I0 J0), (oa (a 5) cI 201 st), (oa (a 6) cZ 201 tn)]) hP hD [0] [1, 2] [1, 2] [0] [2, 0, 1] 3 rfl rfl rfl rfl rfl rfl rfl rfl rfl hk1 hFc hP1 hD1
  clear hk1 hPc hDc hFc hP1 hD1 ht
  refine lv_if_ne (tgt := 14) hx hb dX11_tear_5 rfl (fun c_1 => ?_) (fun c_1 => ?_)
  · have c_1 : f < ft := zp_1 c_1
    refine lv_aload_n hx hb dX11_tear_14 rfl (lv_at hl 0 rfl) ?_
    refine va_get (D := (dC, dI)) (ci := 9) (v := .ref (a 5)) (C := RX11) (T := TX11) (N := 55) hx hb hts inX11 hown hK hP 0 rfl rfl 5 (Nat.le_of_ble_eq_true rfl) (hts _ mw_1164) (fun _ h9 => h9) rfl dX11_tear_15 ?_
    refine lv_iload_n hx hb dX11_tear_18 rfl (lv_at hl 1 rfl) ?_
    have b9_2 : f < 201 := by omega
    refine z_iald hx hb hK hP 1 0 rfl rfl (e := f) rfl b9_2 (Nat.le_of_ble_eq_true rfl) dX11_tear_19 ?_
    refine lv_iconst (v := 2) hx hb dX11_tear_20 rfl ?_
    refine lv_icmp_ne (tgt := 30) hx hb dX11_tear_21 rfl (fun c_3 => ?_) (fun c_3 => ?_)
    · have c_3 : ¬ (st f).toInt = 2 := zc_ne rfl rfl c_3
      refine lv_aload_n hx hb dX11_tear_30 rfl (lv_at hl 0 rfl) ?_
      refine va_get (D := (dC, dI)) (ci := 9) (v := .ref (a 6)) (C := RX11) (T := TX11) (N := 55) hx hb hts inX11 hown hK hP 0 rfl rfl 6 (Nat.le_of_ble_eq_true rfl) (hts _ mw_1165) (fun _ h9 => h9) rfl dX11_tear_31 ?_
      refine lv_iload_n hx hb dX11_tear_34 rfl (lv_at hl 1 rfl) ?_
      refine z_zald hx hb hK hP 2 1 rfl rfl (e := f) rfl b9_2 (Nat.le_of_ble_eq_true rfl) dX11_tear_35 ?_
      refine lv_if_eq (tgt := 45) hx hb dX11_tear_36 rfl (fun c_4 => ?_) (fun c_4 => ?_)
      · have c_4 : (tn f).toInt = 0 := zc_eq rfl rfl c_4
        exfalso; omega
      · have c_4 : ¬ (tn f).toInt = 0 := zc_ne rfl rfl c_4
        refine lv_aload_n hx hb dX11_tear_39 rfl (lv_at hl 0 rfl) ?_
        refine lv_iconst (v := 5) hx hb dX11_tear_40 rfl ?_
        obtain ⟨hPc, hDc, hFc⟩ := zc_sub (wc := [(om k0 a I0 J0)]) hP hD hS hA [0] rfl rfl
        refine zcall (st1 := [.int 0]) (va_runV (As := [.int 5]) (rest := []) ⟨hx, hb, hml, hown, hts⟩ (k_M_no l dC dI cI cZ cF H.size k0 a I0 J0 5 (by decide)) (csV_198 hts rfl rfl ⟨Nat.le_of_ble_eq_true rfl, Nat.le_of_ble_eq_true rfl⟩) (zPV2 (q0 := 0) (ci := 9) hPc hDc hK hXN rfl rfl) rfl rfl hl.1 rfl (lv_room (Nat.le_of_ble_eq_true rfl)) dX11_tear_41 ⟨Nat.le_of_ble_eq_true rfl, Nat.le_of_ble_eq_true rfl⟩) hS hFc hFc rfl (fun t H locs ht hB hk1 hS => ?_)
        obtain ⟨hP1, hD1⟩ := hB
        rw [ht] at hP1
        obtain ⟨hP, hD⟩ := zk (W2 := [(om k0 a (upd (upd I0 14 5) 15 (I0 15)) J0), (oa (a 5) cI 201 st), (oa (a 6) cZ 201 tn)]) hP hD [0] [1, 2] [1, 2] [0] [2, 0, 1] 3 rfl rfl rfl rfl rfl rfl rfl rfl rfl hk1 hFc hP1 hD1
        clear hk1 hPc hDc hFc hP1 hD1 ht
        obtain ⟨hP9, hD9⟩ := zq_sub (wc := [(om k0 a (upd (upd I0 14 5) 15 (I0 15)) J0), (oa (a 5) cI 201 st), (oa (a 6) cZ 201 tn)]) hP hD [0, 1, 2] rfl rfl
        rw [hQ9]
        exact W.zret (ty := .boolean) (v := 0) hx hb hr (rfl) (fun t ht hW => ⟨⟨rfl, 5, by rw [ht]; exact hP9, hD9⟩, hS.F ht⟩) hS.2.2 dX11_tear_44
    · have c_3 : (st f).toInt = 2 := zc_eq rfl rfl c_3
      refine lv_aload_n hx hb dX11_tear_24 rfl (lv_at hl 0 rfl) ?_
      refine lv_iconst (v := 2) hx hb dX11_tear_25 rfl ?_
      obtain ⟨hPc, hDc, hFc⟩ := zc_sub (wc := [(om k0 a I0 J0)]) hP hD hS hA [0] rfl rfl
      refine zcall (st1 := [.int 0]) (va_runV (As := [.int 2]) (rest := []) ⟨hx, hb, hml, hown, hts⟩ (k_M_no l dC dI cI cZ cF H.size k0 a I0 J0 2 (by decide)) (csV_198 hts rfl rfl ⟨Nat.le_of_ble_eq_true rfl, Nat.le_of_ble_eq_true rfl⟩) (zPV2 (q0 := 0) (ci := 9) hPc hDc hK hXN rfl rfl) rfl rfl hl.1 rfl (lv_room (Nat.le_of_ble_eq_true rfl)) dX11_tear_26 ⟨Nat.le_of_ble_eq_true rfl, Nat.le_of_ble_eq_true rfl⟩) hS hFc hFc rfl (fun t H locs ht hB hk1 hS => ?_)
      obtain ⟨hP1, hD1⟩ := hB
      rw [ht] at hP1
      obtain ⟨hP, hD⟩ := zk (W2 := [(om k0 a (upd (upd I0 14 2) 15 (I0 15)) J0), (oa (a 5) cI 201 st), (oa (a 6) cZ 201 tn)]) hP hD [0] [1, 2] [1, 2] [0] [2, 0, 1] 3 rfl rfl rfl rfl rfl rfl rfl rfl rfl hk1 hFc hP1 hD1
      clear hk1 hPc hDc hFc hP1 hD1 ht
      obtain ⟨hP9, hD9⟩ := zq_sub (wc := [(om k0 a (upd (upd I0 14 2) 15 (I0 15)) J0), (oa (a 5) cI 201 st), (oa (a 6) cZ 201 tn)]) hP hD [0, 1, 2] rfl rfl
      rw [hQ9]
      exact W.zret (ty := .boolean) (v := 0) hx hb hr (rfl) (fun t ht hW => ⟨⟨rfl, 2, by rw [ht]; exact hP9, hD9⟩, hS.F ht⟩) hS.2.2 dX11_tear_29
  · have c_1 : ¬ (f < ft) := zp_0 c_1
    exfalso; omega
set_option maxHeartbeats 4000000 in
set_option maxRecDepth 100000 in
theorem k_M_tear_ok (l : Launch) (dC : Nat → ClassId) (dI : Nat → Nat → Nat) (cI cZ cF : ClassId) (sz : Nat) (k0 : Nat) (a : Nat → Nat) (I0 : Nat → Int32) (J0 : Nat → Int64) (f : Nat) (ft : Nat) (st : Nat → Int32) (tn : Nat → Int32) (mn : Nat → Int32) (sa : Nat → Int32) (hft : I0 0 = nI ft) (h200 : ft ≤ 200) (hf_t : f < ft) (hgood : ¬ (st f).toInt = 2 ∧ (tn f).toInt = 0) : Met l yX11_tear (.code yX11_tear cX11_tear 2 (some .boolean) :: ws0) ({ frames := 1, cells := 0, slots := 0, locals := 21 } : Room) (va_Pc [.ref k0, .int (nI f)] (zPre (dC, dI) classes (zTy cI cZ cF) [(om k0 a I0 J0), (oa (a 5) cI 201 st), (oa (a 6) cZ 201 tn), (oa (a 11) cI 201 mn), (oa (a 27) cI 516 sa)] sz zXN)) (zQ (some (.int 1)) (fun t => va_P (dC, dI) classes [(om k0 a (upd (upd (upd I0 14 0) 20 0) 21 (I0 19)) J0), (oa (a 5) cI 201 st), (oa (a 6) cZ 201 (upd tn f 1)), (oa (a 11) cI 201 (upd mn f 0)), (oa (a 27) cI 516 (upd sa 0 0))] t.heap ∧ va_D (va_A [(om k0 a I0 J0), (oa (a 5) cI 201 st), (oa (a 6) cZ 201 tn), (oa (a 11) cI 201 mn), (oa (a 27) cI 516 sa)] sz) [(om k0 a (upd (upd (upd I0 14 0) 20 0) 21 (I0 19)) J0), (oa (a 5) cI 201 st), (oa (a 6) cZ 201 (upd tn f 1)), (oa (a 11) cI 201 (upd mn f 0)), (oa (a 27) cI 516 (upd sa 0 0))]) (va_A [(om k0 a I0 J0), (oa (a 5) cI 201 st), (oa (a 6) cZ 201 tn), (oa (a 11) cI 201 mn), (oa (a 27) cI 516 sa)] sz)) 0 0 (va_A [(om k0 a I0 J0), (oa (a 5) cI 201 st), (oa (a 6) cZ 201 tn), (oa (a 11) cI 201 mn), (oa (a 27) cI 516 sa)] sz) := by
  refine Met.ofW (cc := cX11_tear) (maxL := 2) (ret := (some .boolean)) rfl rfl ?_
  intro p e s m args below meth c s₁ B hml hv
  obtain ⟨rfl, hsz, hP, hK, hD0, hXN⟩ := hv
  have hx := B.exec
  have hb := B.bytes
  have hr := B.returns
  have hts0 := atoms_spec (ws := .code yX11_tear cX11_tear 2 (some .boolean) :: ws0) B.pre
  have hts : ∀ w9 ∈ ws0, w9.before ([.ref k0, .int (nI f)] : List Value).toArray s = true := fun w9 h => hts0 w9 (List.mem_cons_of_mem _ h)
  have hown : s.vm.findClass "ScaleShopModel" = some m.cls := findClass_of_methodNamed B.named
  have hlocks := B.notSynchronized
  subst hsz
  have hD := hD0.self (sz := s.heap.size)
  clear hD0
  generalize hAe : va_A [(om k0 a I0 J0), (oa (a 5) cI 201 st), (oa (a 6) cZ 201 tn), (oa (a 11) cI 201 mn), (oa (a 27) cI 516 sa)] s.heap.size = A at hD ⊢
  have hA : ∀ q : Nat, s.heap.size ≤ q → A q := fun q h => by rw [← hAe]; exact Or.inr h
  clear hAe
  have hS : va_S A s.heap s.heap [] := va_S.rf
  have hP : va_P (dC, dI) classes [(om k0 a I0 J0), (oa (a 5) cI 201 st), (oa (a 6) cZ 201 tn), (oa (a 11) cI 201 mn), (oa (a 27) cI 516 sa)] s.heap := hP
  obtain ⟨Q9, hQ9⟩ : ∃ Q9 : State → Prop, Q9 = MQ below (zQ (some (.int 1)) (fun t => va_P (dC, dI) classes [(om k0 a (upd (upd (upd I0 14 0) 20 0) 21 (I0 19)) J0), (oa (a 5) cI 201 st), (oa (a 6) cZ 201 (upd tn f 1)), (oa (a 11) cI 201 (upd mn f 0)), (oa (a 27) cI 516 (upd sa 0 0))] t.heap ∧ va_D A [(om k0 a (upd (upd (upd I0 14 0) 20 0) 21 (I0 19)) J0), (oa (a 5) cI 201 st), (oa (a 6) cZ 201 (upd tn f 1)), (oa (a 11) cI 201 (upd mn f 0)), (oa (a 27) cI 516 (upd sa 0 0))]) A) ([.ref k0, .int (nI f)] : List Value).toArray s 0 0 A := ⟨_, rfl⟩
  rw [← hQ9]
  have hl := lv_entry ([.ref k0, .int (nI f)]) (n := 2) (Nat.le_of_ble_eq_true rfl)
  rw [lg_entry_eq]
  generalize (lg_sl ([.ref k0, .int (nI f)]) ++ List.replicate (2 - (lg_sl ([.ref k0, .int (nI f)])).length) Slot.unset).toArray = ls at hl ⊢
  have hl : lv_has ls 2 [(0, .ref k0), (1, .int (nI f))] := hl
  refine lv_aload_n hx hb dX11_tear_0 rfl (lv_at hl 0 rfl) ?_
  refine lv_iload_n hx hb dX11_tear_1 rfl (lv_at hl 1 rfl) ?_
  obtain ⟨hPc, hDc, hFc⟩ := zc_sub (wc := [(om k0 a I0 J0)]) hP hD hS hA [0] rfl rfl
  refine zcall (st1 := [.int (pI (f < ft))]) (va_runV (As := [.int (nI f)]) (rest := []) ⟨hx, hb, hml, hown, hts⟩ (k_M_isFeature_n l dC dI cI cZ cF s.heap.size k0 a I0 J0 f ft (by first | with_reducible assumption | assumption) (by first | with_reducible assumption | omega) (by first | with_reducible assumption | omega)) (csV_178 hts rfl rfl ⟨Nat.le_of_ble_eq_true rfl, Nat.le_of_ble_eq_true rfl⟩) (zPV2 (q0 := 0) (ci := 9) hPc hDc hK hXN rfl rfl) rfl rfl hl.1 rfl (lv_room (Nat.le_of_ble_eq_true rfl)) dX11_tear_2 ⟨Nat.le_of_ble_eq_true rfl, Nat.le_of_ble_eq_true rfl⟩) hS hFc hFc rfl (fun t H locs ht hB hk1 hS => ?_)
  obtain ⟨hP1, hD1⟩ := hB
  rw [ht] at hP1
  obtain ⟨hP, hD⟩ := zk (W2 := [(om k0 a I0 J0), (oa (a 5) cI 201 st), (oa (a 6) cZ 201 tn), (oa (a 11) cI 201 mn), (oa (a 27) cI 516 sa)]) hP hD [0] [1, 2, 3, 4] [1, 2, 3, 4] [0] [4, 0, 1, 2, 3] 5 rfl rfl rfl rfl rfl rfl rfl rfl rfl hk1 hFc hP1 hD1
  clear hk1 hPc hDc hFc hP1 hD1 ht
  refine lv_if_ne (tgt := 14) hx hb dX11_tear_5 rfl (fun c_1 => ?_) (fun c_1 => ?_)
  · have c_1 : f < ft := zp_1 c_1
    refine lv_aload_n hx hb dX11_tear_14 rfl (lv_at hl 0 rfl) ?_
    refine va_get (D := (dC, dI)) (ci := 9) (v := .ref (a 5)) (C := RX11) (T := TX11) (N := 55) hx hb hts inX11 hown hK hP 0 rfl rfl 5 (Nat.le_of_ble_eq_true rfl) (hts _ mw_1164) (fun _ h9 => h9) rfl dX11_tear_15 ?_
    refine lv_iload_n hx hb dX11_tear_18 rfl (lv_at hl 1 rfl) ?_
    have b9_2 : f < 201 := by omega
    refine z_iald hx hb hK hP 1 0 rfl rfl (e := f) rfl b9_2 (Nat.le_of_ble_eq_true rfl) dX11_tear_19 ?_
    refine lv_iconst (v := 2) hx hb dX11_tear_20 rfl ?_
    refine lv_icmp_ne (tgt := 30) hx hb dX11_tear_21 rfl (fun c_3 => ?_) (fun c_3 => ?_)
    · have c_3 : ¬ (st f).toInt = 2 := zc_ne rfl rfl c_3
      refine lv_aload_n hx hb dX11_tear_30 rfl (lv_at hl 0 rfl) ?_
      refine va_get (D := (dC, dI)) (ci := 9) (v := .ref (a 6)) (C := RX11) (T := TX11) (N := 55) hx hb hts inX11 hown hK hP 0 rfl rfl 6 (Nat.le_of_ble_eq_true rfl) (hts _ mw_1165) (fun _ h9 => h9) rfl dX11_tear_31 ?_
      refine lv_iload_n hx hb dX11_tear_34 rfl (lv_at hl 1 rfl) ?_
      refine z_zald hx hb hK hP 2 1 rfl rfl (e := f) rfl b9_2 (Nat.le_of_ble_eq_true rfl) dX11_tear_35 ?_
      refine lv_if_eq (tgt := 45) hx hb dX11_tear_36 rfl (fun c_4 => ?_) (fun c_4 => ?_)
      · have c_4 : (tn f).toInt = 0 := zc_eq rfl rfl c_4
        refine lv_aload_n hx hb dX11_tear_45 rfl (lv_at hl 0 rfl) ?_
        refine va_get (D := (dC, dI)) (ci := 9) (v := .ref (a 6)) (C := RX11) (T := TX11) (N := 55) hx hb hts inX11 hown hK hP 0 rfl rfl 6 (Nat.le_of_ble_eq_true rfl) (hts _ mw_1165) (fun _ h9 => h9) rfl dX11_tear_46 ?_
        refine lv_iload_n hx hb dX11_tear_49 rfl (lv_at hl 1 rfl) ?_
        refine lv_iconst (v := 1) hx hb dX11_tear_50 rfl ?_
        refine z_zast hx hb hK hP hD hS 2 1 rfl rfl (e := f) (x := 1) rfl b9_2 (Nat.le_of_ble_eq_true rfl) (by decide) dX11_tear_51 (fun H locs hP hD hS => ?_)
        obtain ⟨hP, hD⟩ : zPD (dC, dI) classes A [(om k0 a I0 J0), (oa (a 5) cI 201 st), (oa (a 6) cZ 201 (upd tn f 1)), (oa (a 11) cI 201 mn), (oa (a 27) cI 516 sa)] H := ⟨hP, hD⟩
        refine lv_aload_n hx hb dX11_tear_52 rfl (lv_at hl 0 rfl) ?_
        refine va_get (D := (dC, dI)) (ci := 9) (v := .ref (a 11)) (C := RX11) (T := TX11) (N := 55) hx hb hts inX11 hown hK hP 0 rfl rfl 11 (Nat.le_of_ble_eq_true rfl) (hts _ mw_1170) (fun _ h9 => h9) rfl dX11_tear_53 ?_
        refine lv_iload_n hx hb dX11_tear_56 rfl (lv_at hl 1 rfl) ?_
        refine lv_iconst (v := 0) hx hb dX11_tear_57 rfl ?_
        refine z_iast hx hb hK hP hD hS 3 0 rfl rfl (e := f) (x := 0) rfl b9_2 (Nat.le_of_ble_eq_true rfl) dX11_tear_58 (fun H locs hP hD hS => ?_)
        obtain ⟨hP, hD⟩ : zPD (dC, dI) classes A [(om k0 a I0 J0), (oa (a 5) cI 201 st), (oa (a 6) cZ 201 (upd tn f 1)), (oa (a 11) cI 201 (upd mn f 0)), (oa (a 27) cI 516 sa)] H := ⟨hP, hD⟩
        refine lv_aload_n hx hb dX11_tear_59 rfl (lv_at hl 0 rfl) ?_
        obtain ⟨hPc, hDc, hFc⟩ := zc_sub (wc := [(om k0 a I0 J0), (oa (a 27) cI 516 sa)]) hP hD hS hA [0, 4] rfl rfl
        refine zcall (st1 := []) (va_runV (As := []) (rest := []) ⟨hx, hb, hml, hown, hts⟩ (k_M_settle l dC dI cI cZ cF H.size k0 a I0 J0 sa ) (csV_197 hts rfl rfl ⟨Nat.le_of_ble_eq_true rfl, Nat.le_of_ble_eq_true rfl⟩) (zPV2 (q0 := 0) (ci := 9) hPc hDc hK hXN rfl rfl) rfl rfl hl.1 rfl (lv_room (Nat.le_of_ble_eq_true rfl)) dX11_tear_60 ⟨Nat.le_of_ble_eq_true rfl, Nat.le_of_ble_eq_true rfl⟩) hS hFc hFc rfl (fun t H locs ht hB hk1 hS => ?_)
        obtain ⟨hP1, hD1⟩ := hB
        rw [ht] at hP1
        obtain ⟨hP, hD⟩ := zk (W2 := [(om k0 a (upd (upd I0 20 0) 21 (I0 19)) J0), (oa (a 5) cI 201 st), (oa (a 6) cZ 201 (upd tn f 1)), (oa (a 11) cI 201 (upd mn f 0)), (oa (a 27) cI 516 (upd sa 0 0))]) hP hD [0, 4] [1, 2, 3] [1, 2, 3] [0, 4] [3, 0, 1, 2, 4] 5 rfl rfl rfl rfl rfl rfl rfl rfl rfl hk1 hFc hP1 hD1
        clear hk1 hPc hDc hFc hP1 hD1 ht
        refine lv_aload_n hx hb dX11_tear_63 rfl (lv_at hl 0 rfl) ?_
        refine lv_iconst (v := 0) hx hb dX11_tear_64 rfl ?_
        refine va_put (D := (dC, dI)) (ci := 9) (v := .int 0) (ty := .int) (C := RX11) (T := TX11) (N := 55) hx hb hts inX11 tyX11 tyX11_ok nmX11 hown hK hP hD hS 0 rfl rfl 14 (by decide) (hts _ mw_1173) (fun _ h9 => h9) rfl (by decide +kernel) rfl rfl (Nat.le_of_ble_eq_true rfl) dX11_tear_65 (fun H locs hP hD hS => ?_)
        obtain ⟨hP, hD⟩ : zPD (dC, dI) classes A [(om k0 a (upd (upd (upd I0 14 0) 20 0) 21 (I0 19)) J0), (oa (a 5) cI 201 st), (oa (a 6) cZ 201 (upd tn f 1)), (oa (a 11) cI 201 (upd mn f 0)), (oa (a 27) cI 516 (upd sa 0 0))] H := ⟨hP, hD⟩
        refine lv_iconst (v := 1) hx hb dX11_tear_68 rfl ?_
        obtain ⟨hP9, hD9⟩ := zq_sub (wc := [(om k0 a (upd (upd (upd I0 14 0) 20 0) 21 (I0 19)) J0), (oa (a 5) cI 201 st), (oa (a 6) cZ 201 (upd tn f 1)), (oa (a 11) cI 201 (upd mn f 0)), (oa (a 27) cI 516 (upd sa 0 0))]) hP hD [0, 1, 2, 3, 4] rfl rfl
        rw [hQ9]
        exact W.zret (ty := .boolean) (v := 1) hx hb hr (rfl) (fun t ht hW => ⟨⟨rfl, by rw [ht]; exact hP9, hD9⟩, hS.F ht⟩) hS.2.2 dX11_tear_69
      · have c_4 : ¬ (tn f).toInt = 0 := zc_ne rfl rfl c_4
        exfalso; omega
    · have c_3 : (st f).toInt = 2 := zc_eq rfl rfl c_3
      exfalso; omega
  · have c_1 : ¬ (f < ft) := zp_0 c_1
    exfalso; omega
set_option maxHeartbeats 4000000 in
set_option maxRecDepth 100000 in
theorem k_M_done_r (l : Launch) (dC : Nat → ClassId) (dI : Nat → Nat → Nat) (cI cZ cF : ClassId) (sz : Nat) (k0 : Nat) (a : Nat → Nat) (I0 : Nat → Int32) (J0 : Nat → Int64) (f : Nat) (n : Nat) (ft : Nat) (st : Nat → Int32) (tn : Nat → Int32) (kd : Nat → Int32) (mn : Nat → Int32) (cx : Nat → Int32) (cy : Nat → Int32) (S0 : Nat → Int32) (hft : I0 0 = nI ft) (h200 : ft ≤ 200) (hf_t : f < ft) (hm_f : mn f = nI n) (hn_f : n ≤ 40) (hp_f : (st f).toInt = 0 → (tn f).toInt = 0 → pls n (cF40 cx f) (cF40 cy f)) (hbad : ¬ ((st f).toInt = 0 ∧ (tn f).toInt = 0 ∧ mSm (kd f).toInt n (cF40 cx f) (cF40 cy f))) : Met l yX11_done (.code yX11_done cX11_done 2 (some .boolean) :: ws0) ({ frames := 5, cells := 0, slots := 0, locals := 131 } : Room) (va_Pc [.ref k0, .int (nI f)] (zPre (dC, dI) classes (zTy cI cZ cF) [(om k0 a I0 J0), (oa (a 5) cI 201 st), (oa (a 6) cZ 201 tn), (oa (a 1) cI 201 kd), (oa (a 11) cI 201 mn), (oa (a 12) cI 8040 cx), (oa (a 13) cI 8040 cy), (oa (a 32) cI 8 S0)] sz zXN)) (zQ (some (.int 0)) (fun t => ∃ (z9 : Int32), ∃ (S1 : Nat → Int32), va_P (dC, dI) classes [(om k0 a (upd (upd I0 14 z9) 15 (I0 15)) J0), (oa (a 5) cI 201 st), (oa (a 6) cZ 201 tn), (oa (a 1) cI 201 kd), (oa (a 11) cI 201 mn), (oa (a 12) cI 8040 cx), (oa (a 13) cI 8040 cy), (oa (a 32) cI 8 S1)] t.heap ∧ va_D (va_A [(om k0 a I0 J0), (oa (a 5) cI 201 st), (oa (a 6) cZ 201 tn), (oa (a 1) cI 201 kd), (oa (a 11) cI 201 mn), (oa (a 12) cI 8040 cx), (oa (a 13) cI 8040 cy), (oa (a 32) cI 8 S0)] sz) [(om k0 a (upd (upd I0 14 z9) 15 (I0 15)) J0), (oa (a 5) cI 201 st), (oa (a 6) cZ 201 tn), (oa (a 1) cI 201 kd), (oa (a 11) cI 201 mn), (oa (a 12) cI 8040 cx), (oa (a 13) cI 8040 cy), (oa (a 32) cI 8 S1)]) (va_A [(om k0 a I0 J0), (oa (a 5) cI 201 st), (oa (a 6) cZ 201 tn), (oa (a 1) cI 201 kd), (oa (a 11) cI 201 mn), (oa (a 12) cI 8040 cx), (oa (a 13) cI 8040 cy), (oa (a 32) cI 8 S0)] sz)) 0 0 (va_A [(om k0 a I0 J0), (oa (a 5) cI 201 st), (oa (a 6) cZ 201 tn), (oa (a 1) cI 201 kd), (oa (a 11) cI 201 mn), (oa (a 12) cI 8040 cx), (oa (a 13) cI 8040 cy), (oa (a 32) cI 8 S0)] sz) := by
  refine Met.ofW (cc := cX11_done) (maxL := 2) (ret := (some .boolean)) rfl rfl ?_
  intro p e s m args below meth c s₁ B hml hv
  obtain ⟨rfl, hsz, hP, hK, hD0, hXN⟩ := hv
  have hx := B.exec
  have hb := B.bytes
  have hr := B.returns
  have hts0 := atoms_spec (ws := .code yX11_done cX11_done 2 (some .boolean) :: ws0) B.pre
  have hts : ∀ w9 ∈ ws0, w9.before ([.ref k0, .int (nI f)] : List Value).toArray s = true := fun w9 h => hts0 w9 (List.mem_cons_of_mem _ h)
  have hown : s.vm.findClass "ScaleShopModel" = some m.cls := findClass_of_methodNamed B.named
  have hlocks := B.notSynchronized
  subst hsz
  have hD := hD0.self (sz := s.heap.size)
  clear hD0
  generalize hAe : va_A [(om k0 a I0 J0), (oa (a 5) cI 201 st), (oa (a 6) cZ 201 tn), (oa (a 1) cI 201 kd), (oa (a 11) cI 201 mn), (oa (a 12) cI 8040 cx), (oa (a 13) cI 8040 cy), (oa (a 32) cI 8 S0)] s.heap.size = A at hD ⊢
  have hA : ∀ q : Nat, s.heap.size ≤ q → A q := fun q h => by rw [← hAe]; exact Or.inr h
  clear hAe
  have hS : va_S A s.heap s.heap [] := va_S.rf
  have hP : va_P (dC, dI) classes [(om k0 a I0 J0), (oa (a 5) cI 201 st), (oa (a 6) cZ 201 tn), (oa (a 1) cI 201 kd), (oa (a 11) cI 201 mn), (oa (a 12) cI 8040 cx), (oa (a 13) cI 8040 cy), (oa (a 32) cI 8 S0)] s.heap := hP
  obtain ⟨Q9, hQ9⟩ : ∃ Q9 : State → Prop, Q9 = MQ below (zQ (some (.int 0)) (fun t => ∃ (z9 : Int32), ∃ (S1 : Nat → Int32), va_P (dC, dI) classes [(om k0 a (upd (upd I0 14 z9) 15 (I0 15)) J0), (oa (a 5) cI 201 st), (oa (a 6) cZ 201 tn), (oa (a 1) cI 201 kd), (oa (a 11) cI 201 mn), (oa (a 12) cI 8040 cx), (oa (a 13) cI 8040 cy), (oa (a 32) cI 8 S1)] t.heap ∧ va_D A [(om k0 a (upd (upd I0 14 z9) 15 (I0 15)) J0), (oa (a 5) cI 201 st), (oa (a 6) cZ 201 tn), (oa (a 1) cI 201 kd), (oa (a 11) cI 201 mn), (oa (a 12) cI 8040 cx), (oa (a 13) cI 8040 cy), (oa (a 32) cI 8 S1)]) A) ([.ref k0, .int (nI f)] : List Value).toArray s 0 0 A := ⟨_, rfl⟩
  rw [← hQ9]
  have hl := lv_entry ([.ref k0, .int (nI f)]) (n := 2) (Nat.le_of_ble_eq_true rfl)
  rw [lg_entry_eq]
  generalize (lg_sl ([.ref k0, .int (nI f)]) ++ List.replicate (2 - (lg_sl ([.ref k0, .int (nI f)])).length) Slot.unset).toArray = ls at hl ⊢
  have hl : lv_has ls 2 [(0, .ref k0), (1, .int (nI f))] := hl
  refine lv_aload_n hx hb dX11_done_0 rfl (lv_at hl 0 rfl) ?_
  refine lv_iload_n hx hb dX11_done_1 rfl (lv_at hl 1 rfl) ?_
  obtain ⟨hPc, hDc, hFc⟩ := zc_sub (wc := [(om k0 a I0 J0)]) hP hD hS hA [0] rfl rfl
  refine zcall (st1 := [.int (pI (f < ft))]) (va_runV (As := [.int (nI f)]) (rest := []) ⟨hx, hb, hml, hown, hts⟩ (k_M_isFeature_n l dC dI cI cZ cF s.heap.size k0 a I0 J0 f ft (by first | with_reducible assumption | assumption) (by first | with_reducible assumption | omega) (by first | with_reducible assumption | omega)) (csV_178 hts rfl rfl ⟨Nat.le_of_ble_eq_true rfl, Nat.le_of_ble_eq_true rfl⟩) (zPV2 (q0 := 0) (ci := 9) hPc hDc hK hXN rfl rfl) rfl rfl hl.1 rfl (lv_room (Nat.le_of_ble_eq_true rfl)) dX11_done_2 ⟨Nat.le_of_ble_eq_true rfl, Nat.le_of_ble_eq_true rfl⟩) hS hFc hFc rfl (fun t H locs ht hB hk1 hS => ?_)
  obtain ⟨hP1, hD1⟩ := hB
  rw [ht] at hP1
  obtain ⟨hP, hD⟩ := zk (W2 := [(om k0 a I0 J0), (oa (a 5) cI 201 st), (oa (a 6) cZ 201 tn), (oa (a 1) cI 201 kd), (oa (a 11) cI 201 mn), (oa (a 12) cI 8040 cx), (oa (a 13) cI 8040 cy), (oa (a 32) cI 8 S0)]) hP hD [0] [1, 2, 3, 4, 5, 6, 7] [1, 2, 3, 4, 5, 6, 7] [0] [7, 0, 1, 2, 3, 4, 5, 6] 8 rfl rfl rfl rfl rfl rfl rfl rfl rfl hk1 hFc hP1 hD1
  clear hk1 hPc hDc hFc hP1 hD1 ht
  refine lv_if_ne (tgt := 14) hx hb dX11_done_5 rfl (fun c_1 => ?_) (fun c_1 => ?_)
  · have c_1 : f < ft := zp_1 c_1
    refine lv_aload_n hx hb dX11_done_14 rfl (lv_at hl 0 rfl) ?_
    refine va_get (D := (dC, dI)) (ci := 9) (v := .ref (a 5)) (C := RX11) (T := TX11) (N := 55) hx hb hts inX11 hown hK hP 0 rfl rfl 5 (Nat.le_of_ble_eq_true rfl) (hts _ mw_1164) (fun _ h9 => h9) rfl dX11_done_15 ?_
    refine lv_iload_n hx hb dX11_done_18 rfl (lv_at hl 1 rfl) ?_
    have b9_2 : f < 201 := by omega
    refine z_iald hx hb hK hP 1 0 rfl rfl (e := f) rfl b9_2 (Nat.le_of_ble_eq_true rfl) dX11_done_19 ?_
    refine lv_if_eq (tgt := 29) hx hb dX11_done_20 rfl (fun c_3 => ?_) (fun c_3 => ?_)
    · have c_3 : (st f).toInt = 0 := zc_eq rfl rfl c_3
      refine lv_aload_n hx hb dX11_done_29 rfl (lv_at hl 0 rfl) ?_
      refine va_get (D := (dC, dI)) (ci := 9) (v := .ref (a 6)) (C := RX11) (T := TX11) (N := 55) hx hb hts inX11 hown hK hP 0 rfl rfl 6 (Nat.le_of_ble_eq_true rfl) (hts _ mw_1165) (fun _ h9 => h9) rfl dX11_done_30 ?_
      refine lv_iload_n hx hb dX11_done_33 rfl (lv_at hl 1 rfl) ?_
      refine z_zald hx hb hK hP 2 1 rfl rfl (e := f) rfl b9_2 (Nat.le_of_ble_eq_true rfl) dX11_done_34 ?_
      refine lv_if_eq (tgt := 44) hx hb dX11_done_35 rfl (fun c_4 => ?_) (fun c_4 => ?_)
      · have c_4 : (tn f).toInt = 0 := zc_eq rfl rfl c_4
        refine lv_aload_n hx hb dX11_done_44 rfl (lv_at hl 0 rfl) ?_
        refine lv_iload_n hx hb dX11_done_45 rfl (lv_at hl 1 rfl) ?_
        obtain ⟨hPc, hDc, hFc⟩ := zc_sub (wc := [(om k0 a I0 J0), (oa (a 1) cI 201 kd), (oa (a 11) cI 201 mn), (oa (a 12) cI 8040 cx), (oa (a 13) cI 8040 cy), (oa (a 32) cI 8 S0)]) hP hD hS hA [0, 3, 4, 5, 6, 7] rfl rfl
        refine zcall (st1 := [.int (pI (mSm (kd f).toInt n (cF40 cx f) (cF40 cy f)))]) (va_runV (As := [.int (nI f)]) (rest := []) ⟨hx, hb, hml, hown, hts⟩ (k_M_isSimple l dC dI cI cZ cF H.size k0 a I0 J0 f n kd mn cx cy S0 (by first | with_reducible assumption | omega) (by first | with_reducible assumption | assumption) (hp_f (by first | with_reducible assumption | omega) (by first | with_reducible assumption | omega)) (by first | with_reducible assumption | omega)) (csV_187 hts rfl rfl ⟨Nat.le_of_ble_eq_true rfl, Nat.le_of_ble_eq_true rfl⟩) (zPV2 (q0 := 0) (ci := 9) hPc hDc hK hXN rfl rfl) rfl rfl hl.1 rfl (lv_room (Nat.le_of_ble_eq_true rfl)) dX11_done_46 ⟨Nat.le_of_ble_eq_true rfl, Nat.le_of_ble_eq_true rfl⟩) hS hFc hFc rfl (fun t H locs ht hB hk1 hS => ?_)
        obtain ⟨q_5, hP1, hD1⟩ := hB
        rw [ht] at hP1
        obtain ⟨hP, hD⟩ := zk (W2 := [(om k0 a I0 J0), (oa (a 5) cI 201 st), (oa (a 6) cZ 201 tn), (oa (a 1) cI 201 kd), (oa (a 11) cI 201 mn), (oa (a 12) cI 8040 cx), (oa (a 13) cI 8040 cy), (oa (a 32) cI 8 q_5)]) hP hD [0, 3, 4, 5, 6, 7] [1, 2] [1, 2] [0, 3, 4, 5, 6, 7] [2, 0, 1, 3, 4, 5, 6, 7] 8 rfl rfl rfl rfl rfl rfl rfl rfl rfl hk1 hFc hP1 hD1
        clear hk1 hPc hDc hFc hP1 hD1 ht
        refine lv_if_ne (tgt := 59) hx hb dX11_done_49 rfl (fun c_6 => ?_) (fun c_6 => ?_)
        · have c_6 : mSm (kd f).toInt n (cF40 cx f) (cF40 cy f) := zp_1 c_6
          exact absurd ⟨by omega, by omega, by assumption⟩ hbad
        · have c_6 : ¬ (mSm (kd f).toInt n (cF40 cx f) (cF40 cy f)) := zp_0 c_6
          refine lv_aload_n hx hb dX11_done_52 rfl (lv_at hl 0 rfl) ?_
          refine lv_bipush (v := 6) hx hb dX11_done_53 rfl ?_
          obtain ⟨hPc, hDc, hFc⟩ := zc_sub (wc := [(om k0 a I0 J0)]) hP hD hS hA [0] rfl rfl
          refine zcall (st1 := [.int 0]) (va_runV (As := [.int 6]) (rest := []) ⟨hx, hb, hml, hown, hts⟩ (k_M_no l dC dI cI cZ cF H.size k0 a I0 J0 6 (by decide)) (csV_198 hts rfl rfl ⟨Nat.le_of_ble_eq_true rfl, Nat.le_of_ble_eq_true rfl⟩) (zPV2 (q0 := 0) (ci := 9) hPc hDc hK hXN rfl rfl) rfl rfl hl.1 rfl (lv_room (Nat.le_of_ble_eq_true rfl)) dX11_done_55 ⟨Nat.le_of_ble_eq_true rfl, Nat.le_of_ble_eq_true rfl⟩) hS hFc hFc rfl (fun t H locs ht hB hk1 hS => ?_)
          obtain ⟨hP1, hD1⟩ := hB
          rw [ht] at hP1
          obtain ⟨hP, hD⟩ := zk (W2 := [(om k0 a (upd (upd I0 14 6) 15 (I0 15)) J0), (oa (a 5) cI 201 st), (oa (a 6) cZ 201 tn), (oa (a 1) cI 201 kd), (oa (a 11) cI 201 mn), (oa (a 12) cI 8040 cx), (oa (a 13) cI 8040 cy), (oa (a 32) cI 8 q_5)]) hP hD [0] [1, 2, 3, 4, 5, 6, 7] [1, 2, 3, 4, 5, 6, 7] [0] [7, 0, 1, 2, 3, 4, 5, 6] 8 rfl rfl rfl rfl rfl rfl rfl rfl rfl hk1 hFc hP1 hD1
          clear hk1 hPc hDc hFc hP1 hD1 ht
          obtain ⟨hP9, hD9⟩ := zq_sub (wc := [(om k0 a (upd (upd I0 14 6) 15 (I0 15)) J0), (oa (a 5) cI 201 st), (oa (a 6) cZ 201 tn), (oa (a 1) cI 201 kd), (oa (a 11) cI 201 mn), (oa (a 12) cI 8040 cx), (oa (a 13) cI 8040 cy), (oa (a 32) cI 8 q_5)]) hP hD [0, 1, 2, 3, 4, 5, 6, 7] rfl rfl
          rw [hQ9]
          exact W.zret (ty := .boolean) (v := 0) hx hb hr (rfl) (fun t ht hW => ⟨⟨rfl, 6, q_5, by rw [ht]; exact hP9, hD9⟩, hS.F ht⟩) hS.2.2 dX11_done_58
      · have c_4 : ¬ (tn f).toInt = 0 := zc_ne rfl rfl c_4
        refine lv_aload_n hx hb dX11_done_38 rfl (lv_at hl 0 rfl) ?_
        refine lv_iconst (v := 5) hx hb dX11_done_39 rfl ?_
        obtain ⟨hPc, hDc, hFc⟩ := zc_sub (wc := [(om k0 a I0 J0)]) hP hD hS hA [0] rfl rfl
        refine zcall (st1 := [.int 0]) (va_runV (As := [.int 5]) (rest := []) ⟨hx, hb, hml, hown, hts⟩ (k_M_no l dC dI cI cZ cF H.size k0 a I0 J0 5 (by decide)) (csV_198 hts rfl rfl ⟨Nat.le_of_ble_eq_true rfl, Nat.le_of_ble_eq_true rfl⟩) (zPV2 (q0 := 0) (ci := 9) hPc hDc hK hXN rfl rfl) rfl rfl hl.1 rfl (lv_room (Nat.le_of_ble_eq_true rfl)) dX11_done_40 ⟨Nat.le_of_ble_eq_true rfl, Nat.le_of_ble_eq_true rfl⟩) hS hFc hFc rfl (fun t H locs ht hB hk1 hS => ?_)
        obtain ⟨hP1, hD1⟩ := hB
        rw [ht] at hP1
        obtain ⟨hP, hD⟩ := zk (W2 := [(om k0 a (upd (upd I0 14 5) 15 (I0 15)) J0), (oa (a 5) cI 201 st), (oa (a 6) cZ 201 tn), (oa (a 1) cI 201 kd), (oa (a 11) cI 201 mn), (oa (a 12) cI 8040 cx), (oa (a 13) cI 8040 cy), (oa (a 32) cI 8 S0)]) hP hD [0] [1, 2, 3, 4, 5, 6, 7] [1, 2, 3, 4, 5, 6, 7] [0] [7, 0, 1, 2, 3, 4, 5, 6] 8 rfl rfl rfl rfl rfl rfl rfl rfl rfl hk1 hFc hP1 hD1
        clear hk1 hPc hDc hFc hP1 hD1 ht
        obtain ⟨hP9, hD9⟩ := zq_sub (wc := [(om k0 a (upd (upd I0 14 5) 15 (I0 15)) J0), (oa (a 5) cI 201 st), (oa (a 6) cZ 201 tn), (oa (a 1) cI 201 kd), (oa (a 11) cI 201 mn), (oa (a 12) cI 8040 cx), (oa (a 13) cI 8040 cy), (oa (a 32) cI 8 S0)]) hP hD [0, 1, 2, 3, 4, 5, 6, 7] rfl rfl
        rw [hQ9]
        exact W.zret (ty := .boolean) (v := 0) hx hb hr (rfl) (fun t ht hW => ⟨⟨rfl, 5, S0, by rw [ht]; exact hP9, hD9⟩, hS.F ht⟩) hS.2.2 dX11_done_43
    · have c_3 : ¬ (st f).toInt = 0 := zc_ne rfl rfl c_3
      refine lv_aload_n hx hb dX11_done_23 rfl (lv_at hl 0 rfl) ?_
      refine lv_iconst (v := 2) hx hb dX11_done_24 rfl ?_
      obtain ⟨hPc, hDc, hFc⟩ := zc_sub (wc := [(om k0 a I0 J0)]) hP hD hS hA [0] rfl rfl
      refine zcall (st1 := [.int 0]) (va_runV (As := [.int 2]) (rest := []) ⟨hx, hb, hml, hown, hts⟩ (k_M_no l dC dI cI cZ cF H.size k0 a I0 J0 2 (by decide)) (csV_198 hts rfl rfl ⟨Nat.le_of_ble_eq_true rfl, Nat.le_of_ble_eq_true rfl⟩) (zPV2 (q0 := 0) (ci := 9) hPc hDc hK hXN rfl rfl) rfl rfl hl.1 rfl (lv_room (Nat.le_of_ble_eq_true rfl)) dX11_done_25 ⟨Nat.le_of_ble_eq_true rfl, Nat.le_of_ble_eq_true rfl⟩) hS hFc hFc rfl (fun t H locs ht hB hk1 hS => ?_)
      obtain ⟨hP1, hD1⟩ := hB
      rw [ht] at hP1
      obtain ⟨hP, hD⟩ := zk (W2 := [(om k0 a (upd (upd I0 14 2) 15 (I0 15)) J0), (oa (a 5) cI 201 st), (oa (a 6) cZ 201 tn), (oa (a 1) cI 201 kd), (oa (a 11) cI 201 mn), (oa (a 12) cI 8040 cx), (oa (a 13) cI 8040 cy), (oa (a 32) cI 8 S0)]) hP hD [0] [1, 2, 3, 4, 5, 6, 7] [1, 2, 3, 4, 5, 6, 7] [0] [7, 0, 1, 2, 3, 4, 5, 6] 8 rfl rfl rfl rfl rfl rfl rfl rfl rfl hk1 hFc hP1 hD1
      clear hk1 hPc hDc hFc hP1 hD1 ht
      obtain ⟨hP9, hD9⟩ := zq_sub (wc := [(om k0 a (upd (upd I0 14 2) 15 (I0 15)) J0), (oa (a 5) cI 201 st), (oa (a 6) cZ 201 tn), (oa (a 1) cI 201 kd), (oa (a 11) cI 201 mn), (oa (a 12) cI 8040 cx), (oa (a 13) cI 8040 cy), (oa (a 32) cI 8 S0)]) hP hD [0, 1, 2, 3, 4, 5, 6, 7] rfl rfl
      rw [hQ9]
      exact W.zret (ty := .boolean) (v := 0) hx hb hr (rfl) (fun t ht hW => ⟨⟨rfl, 2, S0, by rw [ht]; exact hP9, hD9⟩, hS.F ht⟩) hS.2.2 dX11_done_28
  · have c_1 : ¬ (f < ft) := zp_0 c_1
    exfalso; omega
set_option maxHeartbeats 4000000 in
set_option maxRecDepth 100000 in
theorem k_M_done_ok (l : Launch) (dC : Nat → ClassId) (dI : Nat → Nat → Nat) (cI cZ cF : ClassId) (sz : Nat) (k0 : Nat) (a : Nat → Nat) (I0 : Nat → Int32) (J0 : Nat → Int64) (f : Nat) (n : Nat) (ft : Nat) (st : Nat → Int32) (tn : Nat → Int32) (kd : Nat → Int32) (mn : Nat → Int32) (cx : Nat → Int32) (cy : Nat → Int32) (S0 : Nat → Int32) (sa : Nat → Int32) (hft : I0 0 = nI ft) (h200 : ft ≤ 200) (hf_t : f < ft) (hm_f : mn f = nI n) (hn_f : n ≤ 40) (hp_f : (st f).toInt = 0 → (tn f).toInt = 0 → pls n (cF40 cx f) (cF40 cy f)) (hgood : (st f).toInt = 0 ∧ (tn f).toInt = 0 ∧ mSm (kd f).toInt n (cF40 cx f) (cF40 cy f)) : Met l yX11_done (.code yX11_done cX11_done 2 (some .boolean) :: ws0) ({ frames := 5, cells := 0, slots := 0, locals := 131 } : Room) (va_Pc [.ref k0, .int (nI f)] (zPre (dC, dI) classes (zTy cI cZ cF) [(om k0 a I0 J0), (oa (a 5) cI 201 st), (oa (a 6) cZ 201 tn), (oa (a 1) cI 201 kd), (oa (a 11) cI 201 mn), (oa (a 12) cI 8040 cx), (oa (a 13) cI 8040 cy), (oa (a 32) cI 8 S0), (oa (a 27) cI 516 sa)] sz zXN)) (zQ (some (.int 1)) (fun t => ∃ (S1 : Nat → Int32), va_P (dC, dI) classes [(om k0 a (upd (upd (upd I0 14 0) 20 0) 21 (I0 19)) J0), (oa (a 5) cI 201 (upd st f 1)), (oa (a 6) cZ 201 tn), (oa (a 1) cI 201 kd), (oa (a 11) cI 201 mn), (oa (a 12) cI 8040 cx), (oa (a 13) cI 8040 cy), (oa (a 32) cI 8 S1), (oa (a 27) cI 516 (upd sa 0 0))] t.heap ∧ va_D (va_A [(om k0 a I0 J0), (oa (a 5) cI 201 st), (oa (a 6) cZ 201 tn), (oa (a 1) cI 201 kd), (oa (a 11) cI 201 mn), (oa (a 12) cI 8040 cx), (oa (a 13) cI 8040 cy), (oa (a 32) cI 8 S0), (oa (a 27) cI 516 sa)] sz) [(om k0 a (upd (upd (upd I0 14 0) 20 0) 21 (I0 19)) J0), (oa (a 5) cI 201 (upd st f 1)), (oa (a 6) cZ 201 tn), (oa (a 1) cI 201 kd), (oa (a 11) cI 201 mn), (oa (a 12) cI 8040 cx), (oa (a 13) cI 8040 cy), (oa (a 32) cI 8 S1), (oa (a 27) cI 516 (upd sa 0 0))]) (va_A [(om k0 a I0 J0), (oa (a 5) cI 201 st), (oa (a 6) cZ 201 tn), (oa (a 1) cI 201 kd), (oa (a 11) cI 201 mn), (oa (a 12) cI 8040 cx), (oa (a 13) cI 8040 cy), (oa (a 32) cI 8 S0), (oa (a 27) cI 516 sa)] sz)) 0 0 (va_A [(om k0 a I0 J0), (oa (a 5) cI 201 st), (oa (a 6) cZ 201 tn), (oa (a 1) cI 201 kd), (oa (a 11) cI 201 mn), (oa (a 12) cI 8040 cx), (oa (a 13) cI 8040 cy), (oa (a 32) cI 8 S0), (oa (a 27) cI 516 sa)] sz) := by
  refine Met.ofW (cc := cX11_done) (maxL := 2) (ret := (some .boolean)) rfl rfl ?_
  intro p e s m args below meth c s₁ B hml hv
  obtain ⟨rfl, hsz, hP, hK, hD0, hXN⟩ := hv
  have hx := B.exec
  have hb := B.bytes
  have hr := B.returns
  have hts0 := atoms_spec (ws := .code yX11_done cX11_done 2 (some .boolean) :: ws0) B.pre
  have hts : ∀ w9 ∈ ws0, w9.before ([.ref k0, .int (nI f)] : List Value).toArray s = true := fun w9 h => hts0 w9 (List.mem_cons_of_mem _ h)
  have hown : s.vm.findClass "ScaleShopModel" = some m.cls := findClass_of_methodNamed B.named
  have hlocks := B.notSynchronized
  subst hsz
  have hD := hD0.self (sz := s.heap.size)
  clear hD0
  generalize hAe : va_A [(om k0 a I0 J0), (oa (a 5) cI 201 st), (oa (a 6) cZ 201 tn), (oa (a 1) cI 201 kd), (oa (a 11) cI 201 mn), (oa (a 12) cI 8040 cx), (oa (a 13) cI 8040 cy), (oa (a 32) cI 8 S0), (oa (a 27) cI 516 sa)] s.heap.size = A at hD ⊢
  have hA : ∀ q : Nat, s.heap.size ≤ q → A q := fun q h => by rw [← hAe]; exact Or.inr h
  clear hAe
  have hS : va_S A s.heap s.heap [] := va_S.rf
  have hP : va_P (dC, dI) classes [(om k0 a I0 J0), (oa (a 5) cI 201 st), (oa (a 6) cZ 201 tn), (oa (a 1) cI 201 kd), (oa (a 11) cI 201 mn), (oa (a 12) cI 8040 cx), (oa (a 13) cI 8040 cy), (oa (a 32) cI 8 S0), (oa (a 27) cI 516 sa)] s.heap := hP
  obtain ⟨Q9, hQ9⟩ : ∃ Q9 : State → Prop, Q9 = MQ below (zQ (some (.int 1)) (fun t => ∃ (S1 : Nat → Int32), va_P (dC, dI) classes [(om k0 a (upd (upd (upd I0 14 0) 20 0) 21 (I0 19)) J0), (oa (a 5) cI 201 (upd st f 1)), (oa (a 6) cZ 201 tn), (oa (a 1) cI 201 kd), (oa (a 11) cI 201 mn), (oa (a 12) cI 8040 cx), (oa (a 13) cI 8040 cy), (oa (a 32) cI 8 S1), (oa (a 27) cI 516 (upd sa 0 0))] t.heap ∧ va_D A [(om k0 a (upd (upd (upd I0 14 0) 20 0) 21 (I0 19)) J0), (oa (a 5) cI 201 (upd st f 1)), (oa (a 6) cZ 201 tn), (oa (a 1) cI 201 kd), (oa (a 11) cI 201 mn), (oa (a 12) cI 8040 cx), (oa (a 13) cI 8040 cy), (oa (a 32) cI 8 S1), (oa (a 27) cI 516 (upd sa 0 0))]) A) ([.ref k0, .int (nI f)] : List Value).toArray s 0 0 A := ⟨_, rfl⟩
  rw [← hQ9]
  have hl := lv_entry ([.ref k0, .int (nI f)]) (n := 2) (Nat.le_of_ble_eq_true rfl)
  rw [lg_entry_eq]
  generalize (lg_sl ([.ref k0, .int (nI f)]) ++ List.replicate (2 - (lg_sl ([.ref k0, .int (nI f)])).length) Slot.unset).toArray = ls at hl ⊢
  have hl : lv_has ls 2 [(0, .ref k0), (1, .int (nI f))] := hl
  refine lv_aload_n hx hb dX11_done_0 rfl (lv_at hl 0 rfl) ?_
  refine lv_iload_n hx hb dX11_done_1 rfl (lv_at hl 1 rfl) ?_
  obtain ⟨hPc, hDc, hFc⟩ := zc_sub (wc := [(om k0 a I0 J0)]) hP hD hS hA [0] rfl rfl
  refine zcall (st1 := [.int (pI (f < ft))]) (va_runV (As := [.int (nI f)]) (rest := []) ⟨hx, hb, hml, hown, hts⟩ (k_M_isFeature_n l dC dI cI cZ cF s.heap.size k0 a I0 J0 f ft (by first | with_reducible assumption | assumption) (by first | with_reducible assumption | omega) (by first | with_reducible assumption | omega)) (csV_178 hts rfl rfl ⟨Nat.le_of_ble_eq_true rfl, Nat.le_of_ble_eq_true rfl⟩) (zPV2 (q0 := 0) (ci := 9) hPc hDc hK hXN rfl rfl) rfl rfl hl.1 rfl (lv_room (Nat.le_of_ble_eq_true rfl)) dX11_done_2 ⟨Nat.le_of_ble_eq_true rfl, Nat.le_of_ble_eq_true rfl⟩) hS hFc hFc rfl (fun t H locs ht hB hk1 hS => ?_)
  obtain ⟨hP1, hD1⟩ := hB
  rw [ht] at hP1
  obtain ⟨hP, hD⟩ := zk (W2 := [(om k0 a I0 J0), (oa (a 5) cI 201 st), (oa (a 6) cZ 201 tn), (oa (a 1) cI 201 kd), (oa (a 11) cI 201 mn), (oa (a 12) cI 8040 cx), (oa (a 13) cI 8040 cy), (oa (a 32) cI 8 S0), (oa (a 27) cI 516 sa)]) hP hD [0] [1, 2, 3, 4, 5, 6, 7, 8] [1, 2, 3, 4, 5, 6, 7, 8] [0] [8, 0, 1, 2, 3, 4, 5, 6, 7] 9 rfl rfl rfl rfl rfl rfl rfl rfl rfl hk1 hFc hP1 hD1
  clear hk1 hPc hDc hFc hP1 hD1 ht
  refine lv_if_ne (tgt := 14) hx hb dX11_done_5 rfl (fun c_1 => ?_) (fun c_1 => ?_)
  · have c_1 : f < ft := zp_1 c_1
    refine lv_aload_n hx hb dX11_done_14 rfl (lv_at hl 0 rfl) ?_
    refine va_get (D := (dC, dI)) (ci := 9) (v := .ref (a 5)) (C := RX11) (T := TX11) (N := 55) hx hb hts inX11 hown hK hP 0 rfl rfl 5 (Nat.le_of_ble_eq_true rfl) (hts _ mw_1164) (fun _ h9 => h9) rfl dX11_done_15 ?_
    refine lv_iload_n hx hb dX11_done_18 rfl (lv_at hl 1 rfl) ?_
    have b9_2 : f < 201 := by omega
    refine z_iald hx hb hK hP 1 0 rfl rfl (e := f) rfl b9_2 (Nat.le_of_ble_eq_true rfl) dX11_done_19 ?_
    refine lv_if_eq (tgt := 29) hx hb dX11_done_20 rfl (fun c_3 => ?_) (fun c_3 => ?_)
    · have c_3 : (st f).toInt = 0 := zc_eq rfl rfl c_3
      refine lv_aload_n hx hb dX11_done_29 rfl (lv_at hl 0 rfl) ?_
      refine va_get (D := (dC, dI)) (ci := 9) (v := .ref (a 6)) (C := RX11) (T := TX11) (N := 55) hx hb hts inX11 hown hK hP 0 rfl rfl 6 (Nat.le_of_ble_eq_true rfl) (hts _ mw_1165) (fun _ h9 => h9) rfl dX11_done_30 ?_
      refine lv_iload_n hx hb dX11_done_33 rfl (lv_at hl 1 rfl) ?_
      refine z_zald hx hb hK hP 2 1 rfl rfl (e := f) rfl b9_2 (Nat.le_of_ble_eq_true rfl) dX11_done_34 ?_
      refine lv_if_eq (tgt := 44) hx hb dX11_done_35 rfl (fun c_4 => ?_) (fun c_4 => ?_)
      · have c_4 : (tn f).toInt = 0 := zc_eq rfl rfl c_4
        refine lv_aload_n hx hb dX11_done_44 rfl (lv_at hl 0 rfl) ?_
        refine lv_iload_n hx hb dX11_done_45 rfl (lv_at hl 1 rfl) ?_
        obtain ⟨hPc, hDc, hFc⟩ := zc_sub (wc := [(om k0 a I0 J0), (oa (a 1) cI 201 kd), (oa (a 11) cI 201 mn), (oa (a 12) cI 8040 cx), (oa (a 13) cI 8040 cy), (oa (a 32) cI 8 S0)]) hP hD hS hA [0, 3, 4, 5, 6, 7] rfl rfl
        refine zcall (st1 := [.int (pI (mSm (kd f).toInt n (cF40 cx f) (cF40 cy f)))]) (va_runV (As := [.int (nI f)]) (rest := []) ⟨hx, hb, hml, hown, hts⟩ (k_M_isSimple l dC dI cI cZ cF H.size k0 a I0 J0 f n kd mn cx cy S0 (by first | with_reducible assumption | omega) (by first | with_reducible assumption | assumption) (hp_f (by first | with_reducible assumption | omega) (by first | with_reducible assumption | omega)) (by first | with_reducible assumption | omega)) (csV_187 hts rfl rfl ⟨Nat.le_of_ble_eq_true rfl, Nat.le_of_ble_eq_true rfl⟩) (zPV2 (q0 := 0) (ci := 9) hPc hDc hK hXN rfl rfl) rfl rfl hl.1 rfl (lv_room (Nat.le_of_ble_eq_true rfl)) dX11_done_46 ⟨Nat.le_of_ble_eq_true rfl, Nat.le_of_ble_eq_true rfl⟩) hS hFc hFc rfl (fun t H locs ht hB hk1 hS => ?_)
        obtain ⟨q_5, hP1, hD1⟩ := hB
        rw [ht] at hP1
        obtain ⟨hP, hD⟩ := zk (W2 := [(om k0 a I0 J0), (oa (a 5) cI 201 st), (oa (a 6) cZ 201 tn), (oa (a 1) cI 201 kd), (oa (a 11) cI 201 mn), (oa (a 12) cI 8040 cx), (oa (a 13) cI 8040 cy), (oa (a 32) cI 8 q_5), (oa (a 27) cI 516 sa)]) hP hD [0, 3, 4, 5, 6, 7] [1, 2, 8] [1, 2, 8] [0, 3, 4, 5, 6, 7] [3, 0, 1, 4, 5, 6, 7, 8, 2] 9 rfl rfl rfl rfl rfl rfl rfl rfl rfl hk1 hFc hP1 hD1
        clear hk1 hPc hDc hFc hP1 hD1 ht
        refine lv_if_ne (tgt := 59) hx hb dX11_done_49 rfl (fun c_6 => ?_) (fun c_6 => ?_)
        · have c_6 : mSm (kd f).toInt n (cF40 cx f) (cF40 cy f) := zp_1 c_6
          refine lv_aload_n hx hb dX11_done_59 rfl (lv_at hl 0 rfl) ?_
          refine va_get (D := (dC, dI)) (ci := 9) (v := .ref (a 5)) (C := RX11) (T := TX11) (N := 55) hx hb hts inX11 hown hK hP 0 rfl rfl 5 (Nat.le_of_ble_eq_true rfl) (hts _ mw_1164) (fun _ h9 => h9) rfl dX11_done_60 ?_
          refine lv_iload_n hx hb dX11_done_63 rfl (lv_at hl 1 rfl) ?_
          refine lv_iconst (v := 1) hx hb dX11_done_64 rfl ?_
          refine z_iast hx hb hK hP hD hS 1 0 rfl rfl (e := f) (x := 1) rfl b9_2 (Nat.le_of_ble_eq_true rfl) dX11_done_65 (fun H locs hP hD hS => ?_)
          obtain ⟨hP, hD⟩ : zPD (dC, dI) classes A [(om k0 a I0 J0), (oa (a 5) cI 201 (upd st f 1)), (oa (a 6) cZ 201 tn), (oa (a 1) cI 201 kd), (oa (a 11) cI 201 mn), (oa (a 12) cI 8040 cx), (oa (a 13) cI 8040 cy), (oa (a 32) cI 8 q_5), (oa (a 27) cI 516 sa)] H := ⟨hP, hD⟩
          refine lv_aload_n hx hb dX11_done_66 rfl (lv_at hl 0 rfl) ?_
          obtain ⟨hPc, hDc, hFc⟩ := zc_sub (wc := [(om k0 a I0 J0), (oa (a 27) cI 516 sa)]) hP hD hS hA [0, 8] rfl rfl
          refine zcall (st1 := []) (va_runV (As := []) (rest := []) ⟨hx, hb, hml, hown, hts⟩ (k_M_settle l dC dI cI cZ cF H.size k0 a I0 J0 sa ) (csV_197 hts rfl rfl ⟨Nat.le_of_ble_eq_true rfl, Nat.le_of_ble_eq_true rfl⟩) (zPV2 (q0 := 0) (ci := 9) hPc hDc hK hXN rfl rfl) rfl rfl hl.1 rfl (lv_room (Nat.le_of_ble_eq_true rfl)) dX11_done_67 ⟨Nat.le_of_ble_eq_true rfl, Nat.le_of_ble_eq_true rfl⟩) hS hFc hFc rfl (fun t H locs ht hB hk1 hS => ?_)
          obtain ⟨hP1, hD1⟩ := hB
          rw [ht] at hP1
          obtain ⟨hP, hD⟩ := zk (W2 := [(om k0 a (upd (upd I0 20 0) 21 (I0 19)) J0), (oa (a 5) cI 201 (upd st f 1)), (oa (a 6) cZ 201 tn), (oa (a 1) cI 201 kd), (oa (a 11) cI 201 mn), (oa (a 12) cI 8040 cx), (oa (a 13) cI 8040 cy), (oa (a 32) cI 8 q_5), (oa (a 27) cI 516 (upd sa 0 0))]) hP hD [0, 8] [1, 2, 3, 4, 5, 6, 7] [1, 2, 3, 4, 5, 6, 7] [0, 8] [7, 0, 1, 2, 3, 4, 5, 6, 8] 9 rfl rfl rfl rfl rfl rfl rfl rfl rfl hk1 hFc hP1 hD1
          clear hk1 hPc hDc hFc hP1 hD1 ht
          refine lv_aload_n hx hb dX11_done_70 rfl (lv_at hl 0 rfl) ?_
          refine lv_iconst (v := 0) hx hb dX11_done_71 rfl ?_
          refine va_put (D := (dC, dI)) (ci := 9) (v := .int 0) (ty := .int) (C := RX11) (T := TX11) (N := 55) hx hb hts inX11 tyX11 tyX11_ok nmX11 hown hK hP hD hS 0 rfl rfl 14 (by decide) (hts _ mw_1173) (fun _ h9 => h9) rfl (by decide +kernel) rfl rfl (Nat.le_of_ble_eq_true rfl) dX11_done_72 (fun H locs hP hD hS => ?_)
          obtain ⟨hP, hD⟩ : zPD (dC, dI) classes A [(om k0 a (upd (upd (upd I0 14 0) 20 0) 21 (I0 19)) J0), (oa (a 5) cI 201 (upd st f 1)), (oa (a 6) cZ 201 tn), (oa (a 1) cI 201 kd), (oa (a 11) cI 201 mn), (oa (a 12) cI 8040 cx), (oa (a 13) cI 8040 cy), (oa (a 32) cI 8 q_5), (oa (a 27) cI 516 (upd sa 0 0))] H := ⟨hP, hD⟩
          refine lv_iconst (v := 1) hx hb dX11_done_75 rfl ?_
          obtain ⟨hP9, hD9⟩ := zq_sub (wc := [(om k0 a (upd (upd (upd I0 14 0) 20 0) 21 (I0 19)) J0), (oa (a 5) cI 201 (upd st f 1)), (oa (a 6) cZ 201 tn), (oa (a 1) cI 201 kd), (oa (a 11) cI 201 mn), (oa (a 12) cI 8040 cx), (oa (a 13) cI 8040 cy), (oa (a 32) cI 8 q_5), (oa (a 27) cI 516 (upd sa 0 0))]) hP hD [0, 1, 2, 3, 4, 5, 6, 7, 8] rfl rfl
          rw [hQ9]
          exact W.zret (ty := .boolean) (v := 1) hx hb hr (rfl) (fun t ht hW => ⟨⟨rfl, q_5, by rw [ht]; exact hP9, hD9⟩, hS.F ht⟩) hS.2.2 dX11_done_76
        · have c_6 : ¬ (mSm (kd f).toInt n (cF40 cx f) (cF40 cy f)) := zp_0 c_6
          exact absurd hgood.2.2 (by first | with_reducible assumption | assumption)
      · have c_4 : ¬ (tn f).toInt = 0 := zc_ne rfl rfl c_4
        exact absurd hgood.2.1 (by omega)
    · have c_3 : ¬ (st f).toInt = 0 := zc_ne rfl rfl c_3
      exact absurd hgood.1 (by omega)
  · have c_1 : ¬ (f < ft) := zp_0 c_1
    exfalso; omega
end
section
set_option maxHeartbeats 4000000 in
set_option maxRecDepth 100000 in
theorem k_M_undo_r (l : Launch) (dC : Nat → ClassId) (dI : Nat → Nat → Nat) (cI cZ cF : ClassId) (sz : Nat) (k0 : Nat) (a : Nat → Nat) (I0 : Nat → Int32) (J0 : Nat → Int64) (dn : Nat) (bs : Nat) (hdn : I0 19 = nI dn) (hbs : I0 21 = nI bs) (hbd : bs ≤ dn) (hd512 : dn ≤ 512) (heq : dn = bs) : Met l yX11_undo (.code yX11_undo cX11_undo 1 (some .int) :: ws0) ({ frames := 1, cells := 0, slots := 0, locals := 21 } : Room) (va_Pc [.ref k0] (zPre (dC, dI) classes (zTy cI cZ cF) [(om k0 a I0 J0)] sz zXN)) (zQ (some (.int (-1))) (fun t => va_P (dC, dI) classes [(om k0 a (upd (upd I0 14 8) 15 (I0 15)) J0)] t.heap ∧ va_D (va_A [(om k0 a I0 J0)] sz) [(om k0 a (upd (upd I0 14 8) 15 (I0 15)) J0)]) (va_A [(om k0 a I0 J0)] sz)) 0 0 (va_A [(om k0 a I0 J0)] sz) := by
  refine Met.ofW (cc := cX11_undo) (maxL := 1) (ret := (some .int)) rfl rfl ?_
  intro p e s m args below meth c s₁ B hml hv
  obtain ⟨rfl, hsz, hP, hK, hD0, hXN⟩ := hv
  have hx := B.exec
  have hb := B.bytes
  have hr := B.returns
  have hts0 := atoms_spec (ws := .code yX11_undo cX11_undo 1 (some .int) :: ws0) B.pre
  have hts : ∀ w9 ∈ ws0, w9.before ([.ref k0] : List Value).toArray s = true := fun w9 h => hts0 w9 (List.mem_cons_of_mem _ h)
  have hown : s.vm.findClass "ScaleShopModel" = some m.cls := findClass_of_methodNamed B.named
  have hlocks := B.notSynchronized
  subst hsz
  have hD := hD0.self (sz := s.heap.size)
  clear hD0
  generalize hAe : va_A [(om k0 a I0 J0)] s.heap.size = A at hD ⊢
  have hA : ∀ q : Nat, s.heap.size ≤ q → A q := fun q h => by rw [← hAe]; exact Or.inr h
  clear hAe
  have hS : va_S A s.heap s.heap [] := va_S.rf
  have hP : va_P (dC, dI) classes [(om k0 a I0 J0)] s.heap := hP
  obtain ⟨Q9, hQ9⟩ : ∃ Q9 : State → Prop, Q9 = MQ below (zQ (some (.int (-1))) (fun t => va_P (dC, dI) classes [(om k0 a (upd (upd I0 14 8) 15 (I0 15)) J0)] t.heap ∧ va_D A [(om k0 a (upd (upd I0 14 8) 15 (I0 15)) J0)]) A) ([.ref k0] : List Value).toArray s 0 0 A := ⟨_, rfl⟩
  rw [← hQ9]
  have hl := lv_entry ([.ref k0]) (n := 1) (Nat.le_of_ble_eq_true rfl)
  rw [lg_entry_eq]
  generalize (lg_sl ([.ref k0]) ++ List.replicate (1 - (lg_sl ([.ref k0])).length) Slot.unset).toArray = ls at hl ⊢
  have hl : lv_has ls 1 [(0, .ref k0)] := hl
  refine lv_aload_n hx hb dX11_undo_0 rfl (lv_at hl 0 rfl) ?_
  refine va_get (D := (dC, dI)) (ci := 9) (v := .int (I0 19)) (C := RX11) (T := TX11) (N := 55) hx hb hts inX11 hown hK hP 0 rfl rfl 19 (Nat.le_of_ble_eq_true rfl) (hts _ mw_1178) (fun _ h9 => h9) rfl dX11_undo_1 ?_
  refine zz_i (v := nI dn) (hdn) ?_
  refine lv_aload_n hx hb dX11_undo_4 rfl (lv_at hl 0 rfl) ?_
  refine va_get (D := (dC, dI)) (ci := 9) (v := .int (I0 21)) (C := RX11) (T := TX11) (N := 55) hx hb hts inX11 hown hK hP 0 rfl rfl 21 (Nat.le_of_ble_eq_true rfl) (hts _ mw_1180) (fun _ h9 => h9) rfl dX11_undo_5 ?_
  refine zz_i (v := nI bs) (hbs) ?_
  have b9_2 : dn < 2147483648 := by omega
  have b9_3 : bs < 2147483648 := by omega
  refine lv_icmp_ne (tgt := 18) hx hb dX11_undo_8 rfl (fun c_1 => ?_) (fun c_1 => ?_)
  · have c_1 : ¬ ((dn : Nat) : Int) = ((bs : Nat) : Int) := zc_ne (nI_toInt b9_2) (nI_toInt b9_3) c_1
    exfalso; omega
  · have c_1 : ((dn : Nat) : Int) = ((bs : Nat) : Int) := zc_eq (nI_toInt b9_2) (nI_toInt b9_3) c_1
    refine lv_aload_n hx hb dX11_undo_11 rfl (lv_at hl 0 rfl) ?_
    refine lv_bipush (v := 8) hx hb dX11_undo_12 rfl ?_
    obtain ⟨hPc, hDc, hFc⟩ := zc_sub (wc := [(om k0 a I0 J0)]) hP hD hS hA [0] rfl rfl
    refine zcall (st1 := [.int (-1)]) (va_runV (As := [.int 8]) (rest := []) ⟨hx, hb, hml, hown, hts⟩ (k_M_refuse l dC dI cI cZ cF s.heap.size k0 a I0 J0 8 (by decide)) (csV_185 hts rfl rfl ⟨Nat.le_of_ble_eq_true rfl, Nat.le_of_ble_eq_true rfl⟩) (zPV2 (q0 := 0) (ci := 9) hPc hDc hK hXN rfl rfl) rfl rfl hl.1 rfl (lv_room (Nat.le_of_ble_eq_true rfl)) dX11_undo_14 ⟨Nat.le_of_ble_eq_true rfl, Nat.le_of_ble_eq_true rfl⟩) hS hFc hFc rfl (fun t H locs ht hB hk1 hS => ?_)
    obtain ⟨hP1, hD1⟩ := hB
    rw [ht] at hP1
    obtain ⟨hP, hD⟩ := zk (W2 := [(om k0 a (upd (upd I0 14 8) 15 (I0 15)) J0)]) hP hD [0] [] [] [0] [0] 1 rfl rfl rfl rfl rfl rfl rfl rfl rfl hk1 hFc hP1 hD1
    clear hk1 hPc hDc hFc hP1 hD1 ht
    obtain ⟨hP9, hD9⟩ := zq_sub (wc := [(om k0 a (upd (upd I0 14 8) 15 (I0 15)) J0)]) hP hD [0] rfl rfl
    rw [hQ9]
    exact W.iret (v := (-1)) hx hb hr (fun t ht hW => ⟨⟨rfl, by rw [ht]; exact hP9, hD9⟩, hS.F ht⟩) hS.2.2 dX11_undo_17
set_option maxHeartbeats 4000000 in
set_option maxRecDepth 100000 in
theorem k_M_redo_r (l : Launch) (dC : Nat → ClassId) (dI : Nat → Nat → Nat) (cI cZ cF : ClassId) (sz : Nat) (k0 : Nat) (a : Nat → Nat) (I0 : Nat → Int32) (J0 : Nat → Int64) (rd : Nat) (hrd : I0 20 = nI rd) (hr512 : rd ≤ 512) (heq : rd = 0) : Met l yX11_redo (.code yX11_redo cX11_redo 1 (some .int) :: ws0) ({ frames := 1, cells := 0, slots := 0, locals := 21 } : Room) (va_Pc [.ref k0] (zPre (dC, dI) classes (zTy cI cZ cF) [(om k0 a I0 J0)] sz zXN)) (zQ (some (.int (-1))) (fun t => va_P (dC, dI) classes [(om k0 a (upd (upd I0 14 8) 15 (I0 15)) J0)] t.heap ∧ va_D (va_A [(om k0 a I0 J0)] sz) [(om k0 a (upd (upd I0 14 8) 15 (I0 15)) J0)]) (va_A [(om k0 a I0 J0)] sz)) 0 0 (va_A [(om k0 a I0 J0)] sz) := by
  refine Met.ofW (cc := cX11_redo) (maxL := 1) (ret := (some .int)) rfl rfl ?_
  intro p e s m args below meth c s₁ B hml hv
  obtain ⟨rfl, hsz, hP, hK, hD0, hXN⟩ := hv
  have hx := B.exec
  have hb := B.bytes
  have hr := B.returns
  have hts0 := atoms_spec (ws := .code yX11_redo cX11_redo 1 (some .int) :: ws0) B.pre
  have hts : ∀ w9 ∈ ws0, w9.before ([.ref k0] : List Value).toArray s = true := fun w9 h => hts0 w9 (List.mem_cons_of_mem _ h)
  have hown : s.vm.findClass "ScaleShopModel" = some m.cls := findClass_of_methodNamed B.named
  have hlocks := B.notSynchronized
  subst hsz
  have hD := hD0.self (sz := s.heap.size)
  clear hD0
  generalize hAe : va_A [(om k0 a I0 J0)] s.heap.size = A at hD ⊢
  have hA : ∀ q : Nat, s.heap.size ≤ q → A q := fun q h => by rw [← hAe]; exact Or.inr h
  clear hAe
  have hS : va_S A s.heap s.heap [] := va_S.rf
  have hP : va_P (dC, dI) classes [(om k0 a I0 J0)] s.heap := hP
  obtain ⟨Q9, hQ9⟩ : ∃ Q9 : State → Prop, Q9 = MQ below (zQ (some (.int (-1))) (fun t => va_P (dC, dI) classes [(om k0 a (upd (upd I0 14 8) 15 (I0 15)) J0)] t.heap ∧ va_D A [(om k0 a (upd (upd I0 14 8) 15 (I0 15)) J0)]) A) ([.ref k0] : List Value).toArray s 0 0 A := ⟨_, rfl⟩
  rw [← hQ9]
  have hl := lv_entry ([.ref k0]) (n := 1) (Nat.le_of_ble_eq_true rfl)
  rw [lg_entry_eq]
  generalize (lg_sl ([.ref k0]) ++ List.replicate (1 - (lg_sl ([.ref k0])).length) Slot.unset).toArray = ls at hl ⊢
  have hl : lv_has ls 1 [(0, .ref k0)] := hl
  refine lv_aload_n hx hb dX11_redo_0 rfl (lv_at hl 0 rfl) ?_
  refine va_get (D := (dC, dI)) (ci := 9) (v := .int (I0 20)) (C := RX11) (T := TX11) (N := 55) hx hb hts inX11 hown hK hP 0 rfl rfl 20 (Nat.le_of_ble_eq_true rfl) (hts _ mw_1179) (fun _ h9 => h9) rfl dX11_redo_1 ?_
  refine zz_i (v := nI rd) (hrd) ?_
  have b9_2 : rd < 2147483648 := by omega
  refine lv_if_ne (tgt := 14) hx hb dX11_redo_4 rfl (fun c_1 => ?_) (fun c_1 => ?_)
  · have c_1 : ¬ ((rd : Nat) : Int) = 0 := zc_ne (nI_toInt b9_2) rfl c_1
    exfalso; omega
  · have c_1 : ((rd : Nat) : Int) = 0 := zc_eq (nI_toInt b9_2) rfl c_1
    refine lv_aload_n hx hb dX11_redo_7 rfl (lv_at hl 0 rfl) ?_
    refine lv_bipush (v := 8) hx hb dX11_redo_8 rfl ?_
    obtain ⟨hPc, hDc, hFc⟩ := zc_sub (wc := [(om k0 a I0 J0)]) hP hD hS hA [0] rfl rfl
    refine zcall (st1 := [.int (-1)]) (va_runV (As := [.int 8]) (rest := []) ⟨hx, hb, hml, hown, hts⟩ (k_M_refuse l dC dI cI cZ cF s.heap.size k0 a I0 J0 8 (by decide)) (csV_185 hts rfl rfl ⟨Nat.le_of_ble_eq_true rfl, Nat.le_of_ble_eq_true rfl⟩) (zPV2 (q0 := 0) (ci := 9) hPc hDc hK hXN rfl rfl) rfl rfl hl.1 rfl (lv_room (Nat.le_of_ble_eq_true rfl)) dX11_redo_10 ⟨Nat.le_of_ble_eq_true rfl, Nat.le_of_ble_eq_true rfl⟩) hS hFc hFc rfl (fun t H locs ht hB hk1 hS => ?_)
    obtain ⟨hP1, hD1⟩ := hB
    rw [ht] at hP1
    obtain ⟨hP, hD⟩ := zk (W2 := [(om k0 a (upd (upd I0 14 8) 15 (I0 15)) J0)]) hP hD [0] [] [] [0] [0] 1 rfl rfl rfl rfl rfl rfl rfl rfl rfl hk1 hFc hP1 hD1
    clear hk1 hPc hDc hFc hP1 hD1 ht
    obtain ⟨hP9, hD9⟩ := zq_sub (wc := [(om k0 a (upd (upd I0 14 8) 15 (I0 15)) J0)]) hP hD [0] rfl rfl
    rw [hQ9]
    exact W.iret (v := (-1)) hx hb hr (fun t ht hW => ⟨⟨rfl, by rw [ht]; exact hP9, hD9⟩, hS.F ht⟩) hS.2.2 dX11_redo_13
set_option maxHeartbeats 4000000 in
set_option maxRecDepth 100000 in
theorem k_M_undo_ok (l : Launch) (dC : Nat → ClassId) (dI : Nat → Nat → Nat) (cI cZ cF : ClassId) (sz : Nat) (k0 : Nat) (a : Nat → Nat) (I0 : Nat → Int32) (J0 : Nat → Int64) (dn : Nat) (bs : Nat) (rd : Nat) (ft1 : Nat) (w0 : Nat) (cp : Nat) (nn : Nat → Nat) (D : Nat → Nat → Int32) (kd : Nat → Int32) (st : Nat → Int32) (gb : Nat → Int32) (it : Nat → Int32) (pa : Nat → Int32) (pb : Nat → Int32) (rk : Nat → Int32) (wd : Nat → Int32) (tw : Nat → Int32) (tn : Nat → Int32) (mn : Nat → Int32) (cx : Nat → Int32) (cy : Nat → Int32) (sa : Nat → Int32) (sh : Nat → Int32) (hdn : I0 19 = nI dn) (hbs : I0 21 = nI bs) (hbd : bs ≤ dn) (hd512 : dn ≤ 512) (hrd : I0 20 = nI rd) (hr512 : rd ≤ 512) (hlt : bs < dn) (hi5 : (dn - 1 - bs) < 516) (hsa : sa (dn - 1 - bs) = nI w0) (hft1 : sh w0 = nI ft1) (h200 : ft1 ≤ 200) (hblk : ∀ g, g < ft1 → ∀ j, j < 10 + 2 * nn g → sh (psN nn w0 g + j) = D g j) (h9 : ∀ g, g < ft1 → D g 9 = nI (nn g)) (hn40 : ∀ g, g < ft1 → nn g ≤ 40) (hfit : psN nn w0 ft1 ≤ 4096 * cp) (hcm : cp ≤ 512) : Met l yX11_undo (.code yX11_undo cX11_undo 1 (some .int) :: ws0) ({ frames := 2, cells := 0, slots := 0, locals := 44 } : Room) (va_Pc [.ref k0] (zPre (dC, dI) classes (zTy cI cZ cF) [(om k0 a I0 J0), (oa (a 1) cI 201 kd), (oa (a 5) cI 201 st), (oa (a 7) cI 201 gb), (oa (a 10) cI 201 it), (oa (a 8) cI 201 pa), (oa (a 9) cI 201 pb), (oa (a 2) cI 201 rk), (oa (a 3) cI 201 wd), (oa (a 4) cI 201 tw), (oa (a 6) cZ 201 tn), (oa (a 11) cI 201 mn), (oa (a 12) cI 8040 cx), (oa (a 13) cI 8040 cy), (oa (a 27) cI 516 sa), (oa (a 28) cI (4096 * cp) sh)] sz zXN)) (zQ (some (.int (nI (dn - 1 + 1)))) (fun t => va_P (dC, dI) classes [(om k0 a (upd (upd (upd (upd (upd I0 0 (nI ft1)) 14 0) 19 (nI (dn - 1))) 20 (nI (rd + 1))) 42 (nI (psN nn w0 ft1))) J0), (oa (a 1) cI 201 (rsA ft1 (fun g => D g 0) kd)), (oa (a 5) cI 201 (rsA ft1 (fun g => D g 1) st)), (oa (a 7) cI 201 (rsA ft1 (fun g => D g 2) gb)), (oa (a 10) cI 201 (rsA ft1 (fun g => D g 3) it)), (oa (a 8) cI 201 (rsA ft1 (fun g => D g 4) pa)), (oa (a 9) cI 201 (rsA ft1 (fun g => D g 5) pb)), (oa (a 2) cI 201 (rsA ft1 (fun g => D g 6) rk)), (oa (a 3) cI 201 (rsA ft1 (fun g => D g 7) wd)), (oa (a 4) cI 201 (rsA ft1 (fun g => D g 8) tw)), (oa (a 6) cZ 201 tn), (oa (a 11) cI 201 (rsM ft1 D nn tn mn)), (oa (a 12) cI 8040 (rsC ft1 0 D nn 10 cx)), (oa (a 13) cI 8040 (rsC ft1 0 D nn 11 cy)), (oa (a 27) cI 516 sa), (oa (a 28) cI (4096 * cp) sh)] t.heap ∧ va_D (va_A [(om k0 a I0 J0), (oa (a 1) cI 201 kd), (oa (a 5) cI 201 st), (oa (a 7) cI 201 gb), (oa (a 10) cI 201 it), (oa (a 8) cI 201 pa), (oa (a 9) cI 201 pb), (oa (a 2) cI 201 rk), (oa (a 3) cI 201 wd), (oa (a 4) cI 201 tw), (oa (a 6) cZ 201 tn), (oa (a 11) cI 201 mn), (oa (a 12) cI 8040 cx), (oa (a 13) cI 8040 cy), (oa (a 27) cI 516 sa), (oa (a 28) cI (4096 * cp) sh)] sz) [(om k0 a (upd (upd (upd (upd (upd I0 0 (nI ft1)) 14 0) 19 (nI (dn - 1))) 20 (nI (rd + 1))) 42 (nI (psN nn w0 ft1))) J0), (oa (a 1) cI 201 (rsA ft1 (fun g => D g 0) kd)), (oa (a 5) cI 201 (rsA ft1 (fun g => D g 1) st)), (oa (a 7) cI 201 (rsA ft1 (fun g => D g 2) gb)), (oa (a 10) cI 201 (rsA ft1 (fun g => D g 3) it)), (oa (a 8) cI 201 (rsA ft1 (fun g => D g 4) pa)), (oa (a 9) cI 201 (rsA ft1 (fun g => D g 5) pb)), (oa (a 2) cI 201 (rsA ft1 (fun g => D g 6) rk)), (oa (a 3) cI 201 (rsA ft1 (fun g => D g 7) wd)), (oa (a 4) cI 201 (rsA ft1 (fun g => D g 8) tw)), (oa (a 6) cZ 201 tn), (oa (a 11) cI 201 (rsM ft1 D nn tn mn)), (oa (a 12) cI 8040 (rsC ft1 0 D nn 10 cx)), (oa (a 13) cI 8040 (rsC ft1 0 D nn 11 cy)), (oa (a 27) cI 516 sa), (oa (a 28) cI (4096 * cp) sh)]) (va_A [(om k0 a I0 J0), (oa (a 1) cI 201 kd), (oa (a 5) cI 201 st), (oa (a 7) cI 201 gb), (oa (a 10) cI 201 it), (oa (a 8) cI 201 pa), (oa (a 9) cI 201 pb), (oa (a 2) cI 201 rk), (oa (a 3) cI 201 wd), (oa (a 4) cI 201 tw), (oa (a 6) cZ 201 tn), (oa (a 11) cI 201 mn), (oa (a 12) cI 8040 cx), (oa (a 13) cI 8040 cy), (oa (a 27) cI 516 sa), (oa (a 28) cI (4096 * cp) sh)] sz)) 0 0 (va_A [(om k0 a I0 J0), (oa (a 1) cI 201 kd), (oa (a 5) cI 201 st), (oa (a 7) cI 201 gb), (oa (a 10) cI 201 it), (oa (a 8) cI 201 pa), (oa (a 9) cI 201 pb), (oa (a 2) cI 201 rk), (oa (a 3) cI 201 wd), (oa (a 4) cI 201 tw), (oa (a 6) cZ 201 tn), (oa (a 11) cI 201 mn), (oa (a 12) cI 8040 cx), (oa (a 13) cI 8040 cy), (oa (a 27) cI 516 sa), (oa (a 28) cI (4096 * cp) sh)] sz) := by
  refine Met.ofW (cc := cX11_undo) (maxL := 1) (ret := (some .int)) rfl rfl ?_
  intro p e s m args below meth c s₁ B hml hv
  obtain ⟨rfl, hsz, hP, hK, hD0, hXN⟩ := hv
  have hx := B.exec
  have hb := B.bytes
  have hr := B.returns
  have hts0 := atoms_spec (ws := .code yX11_undo cX11_undo 1 (some .int) :: ws0) B.pre
  have hts : ∀ w9 ∈ ws0, w9.before ([.ref k0] : List Value).toArray s = true := fun w9 h => hts0 w9 (List.mem_cons_of_mem _ h)
  have hown : s.vm.findClass "ScaleShopModel" = some m.cls := findClass_of_methodNamed B.named
  have hlocks := B.notSynchronized
  subst hsz
  have hD := hD0.self (sz := s.heap.size)
  clear hD0
  generalize hAe : va_A [(om k0 a I0 J0), (oa (a 1) cI 201 kd), (oa (a 5) cI 201 st), (oa (a 7) cI 201 gb), (oa (a 10) cI 201 it), (oa (a 8) cI 201 pa), (oa (a 9) cI 201 pb), (oa (a 2) cI 201 rk), (oa (a 3) cI 201 wd), (oa (a 4) cI 201 tw), (oa (a 6) cZ 201 tn), (oa (a 11) cI 201 mn), (oa (a 12) cI 8040 cx), (oa (a 13) cI 8040 cy), (oa (a 27) cI 516 sa), (oa (a 28) cI (4096 * cp) sh)] s.heap.size = A at hD ⊢
  have hA : ∀ q : Nat, s.heap.size ≤ q → A q := fun q h => by rw [← hAe]; exact Or.inr h
  clear hAe
  have hS : va_S A s.heap s.heap [] := va_S.rf
  have hP : va_P (dC, dI) classes [(om k0 a I0 J0), (oa (a 1) cI 201 kd), (oa (a 5) cI 201 st), (oa (a 7) cI 201 gb), (oa (a 10) cI 201 it), (oa (a 8) cI 201 pa), (oa (a 9) cI 201 pb), (oa (a 2) cI 201 rk), (oa (a 3) cI 201 wd), (oa (a 4) cI 201 tw), (oa (a 6) cZ 201 tn), (oa (a 11) cI 201 mn), (oa (a 12) cI 8040 cx), (oa (a 13) cI 8040 cy), (oa (a 27) cI 516 sa), (oa (a 28) cI (4096 * cp) sh)] s.heap := hP
  obtain ⟨Q9, hQ9⟩ : ∃ Q9 : State → Prop, Q9 = MQ below (zQ (some (.int (nI (dn - 1 + 1)))) (fun t => va_P (dC, dI) classes [(om k0 a (upd (upd (upd (upd (upd I0 0 (nI ft1)) 14 0) 19 (nI (dn - 1))) 20 (nI (rd + 1))) 42 (nI (psN nn w0 ft1))) J0), (oa (a 1) cI 201 (rsA ft1 (fun g => D g 0) kd)), (oa (a 5) cI 201 (rsA ft1 (fun g => D g 1) st)), (oa (a 7) cI 201 (rsA ft1 (fun g => D g 2) gb)), (oa (a 10) cI 201 (rsA ft1 (fun g => D g 3) it)), (oa (a 8) cI 201 (rsA ft1 (fun g => D g 4) pa)), (oa (a 9) cI 201 (rsA ft1 (fun g => D g 5) pb)), (oa (a 2) cI 201 (rsA ft1 (fun g => D g 6) rk)), (oa (a 3) cI 201 (rsA ft1 (fun g => D g 7) wd)), (oa (a 4) cI 201 (rsA ft1 (fun g => D g 8) tw)), (oa (a 6) cZ 201 tn), (oa (a 11) cI 201 (rsM ft1 D nn tn mn)), (oa (a 12) cI 8040 (rsC ft1 0 D nn 10 cx)), (oa (a 13) cI 8040 (rsC ft1 0 D nn 11 cy)), (oa (a 27) cI 516 sa), (oa (a 28) cI (4096 * cp) sh)] t.heap ∧ va_D A [(om k0 a (upd (upd (upd (upd (upd I0 0 (nI ft1)) 14 0) 19 (nI (dn - 1))) 20 (nI (rd + 1))) 42 (nI (psN nn w0 ft1))) J0), (oa (a 1) cI 201 (rsA ft1 (fun g => D g 0) kd)), (oa (a 5) cI 201 (rsA ft1 (fun g => D g 1) st)), (oa (a 7) cI 201 (rsA ft1 (fun g => D g 2) gb)), (oa (a 10) cI 201 (rsA ft1 (fun g => D g 3) it)), (oa (a 8) cI 201 (rsA ft1 (fun g => D g 4) pa)), (oa (a 9) cI 201 (rsA ft1 (fun g => D g 5) pb)), (oa (a 2) cI 201 (rsA ft1 (fun g => D g 6) rk)), (oa (a 3) cI 201 (rsA ft1 (fun g => D g 7) wd)), (oa (a 4) cI 201 (rsA ft1 (fun g => D g 8) tw)), (oa (a 6) cZ 201 tn), (oa (a 11) cI 201 (rsM ft1 D nn tn mn)), (oa (a 12) cI 8040 (rsC ft1 0 D nn 10 cx)), (oa (a 13) cI 8040 (rsC ft1 0 D nn 11 cy)), (oa (a 27) cI 516 sa), (oa (a 28) cI (4096 * cp) sh)]) A) ([.ref k0] : List Value).toArray s 0 0 A := ⟨_, rfl⟩
  rw [← hQ9]
  have hl := lv_entry ([.ref k0]) (n := 1) (Nat.le_of_ble_eq_true rfl)
  rw [lg_entry_eq]
  generalize (lg_sl ([.ref k0]) ++ List.replicate (1 - (lg_sl ([.ref k0])).length) Slot.unset).toArray = ls at hl ⊢
  have hl : lv_has ls 1 [(0, .ref k0)] := hl
  refine lv_aload_n hx hb dX11_undo_0 rfl (lv_at hl 0 rfl) ?_
  refine va_get (D := (dC, dI)) (ci := 9) (v := .int (I0 19)) (C := RX11) (T := TX11) (N := 55) hx hb hts inX11 hown hK hP 0 rfl rfl 19 (Nat.le_of_ble_eq_true rfl) (hts _ mw_1178) (fun _ h9 => h9) rfl dX11_undo_1 ?_
  refine zz_i (v := nI dn) (hdn) ?_
  refine lv_aload_n hx hb dX11_undo_4 rfl (lv_at hl 0 rfl) ?_
  refine va_get (D := (dC, dI)) (ci := 9) (v := .int (I0 21)) (C := RX11) (T := TX11) (N := 55) hx hb hts inX11 hown hK hP 0 rfl rfl 21 (Nat.le_of_ble_eq_true rfl) (hts _ mw_1180) (fun _ h9 => h9) rfl dX11_undo_5 ?_
  refine zz_i (v := nI bs) (hbs) ?_
  have b9_2 : dn < 2147483648 := by omega
  have b9_3 : bs < 2147483648 := by omega
  refine lv_icmp_ne (tgt := 18) hx hb dX11_undo_8 rfl (fun c_1 => ?_) (fun c_1 => ?_)
  · have c_1 : ¬ ((dn : Nat) : Int) = ((bs : Nat) : Int) := zc_ne (nI_toInt b9_2) (nI_toInt b9_3) c_1
    refine lv_aload_n hx hb dX11_undo_18 rfl (lv_at hl 0 rfl) ?_
    refine lv_dup hx hb dX11_undo_19 rfl ?_
    refine va_get (D := (dC, dI)) (ci := 9) (v := .int (I0 19)) (C := RX11) (T := TX11) (N := 55) hx hb hts inX11 hown hK hP 0 rfl rfl 19 (Nat.le_of_ble_eq_true rfl) (hts _ mw_1178) (fun _ h9 => h9) rfl dX11_undo_20 ?_
    refine zz_i (v := nI dn) (hdn) ?_
    refine lv_iconst (v := 1) hx hb dX11_undo_23 rfl ?_
    refine lv_isub hx hb dX11_undo_24 ?_
    refine zz_i (v := nI (dn - 1)) (pk_sub (a := dn) (b := 1) (by omega)) ?_
    refine va_put (D := (dC, dI)) (ci := 9) (v := .int (nI (dn - 1))) (ty := .int) (C := RX11) (T := TX11) (N := 55) hx hb hts inX11 tyX11 tyX11_ok nmX11 hown hK hP hD hS 0 rfl rfl 19 (by decide) (hts _ mw_1178) (fun _ h9 => h9) rfl (by decide +kernel) rfl rfl (Nat.le_of_ble_eq_true rfl) dX11_undo_25 (fun H locs hP hD hS => ?_)
    obtain ⟨hP, hD⟩ : zPD (dC, dI) classes A [(om k0 a (upd I0 19 (nI (dn - 1))) J0), (oa (a 1) cI 201 kd), (oa (a 5) cI 201 st), (oa (a 7) cI 201 gb), (oa (a 10) cI 201 it), (oa (a 8) cI 201 pa), (oa (a 9) cI 201 pb), (oa (a 2) cI 201 rk), (oa (a 3) cI 201 wd), (oa (a 4) cI 201 tw), (oa (a 6) cZ 201 tn), (oa (a 11) cI 201 mn), (oa (a 12) cI 8040 cx), (oa (a 13) cI 8040 cy), (oa (a 27) cI 516 sa), (oa (a 28) cI (4096 * cp) sh)] H := ⟨hP, hD⟩
    refine lv_aload_n hx hb dX11_undo_28 rfl (lv_at hl 0 rfl) ?_
    refine lv_dup hx hb dX11_undo_29 rfl ?_
    refine va_get (D := (dC, dI)) (ci := 9) (v := .int (I0 20)) (C := RX11) (T := TX11) (N := 55) hx hb hts inX11 hown hK hP 0 rfl rfl 20 (Nat.le_of_ble_eq_true rfl) (hts _ mw_1179) (fun _ h9 => h9) rfl dX11_undo_30 ?_
    refine zz_i (v := nI rd) (hrd) ?_
    refine lv_iconst (v := 1) hx hb dX11_undo_33 rfl ?_
    refine lv_iadd hx hb dX11_undo_34 ?_
    refine zz_i (v := nI (rd + 1)) (nI_add rd 1) ?_
    refine va_put (D := (dC, dI)) (ci := 9) (v := .int (nI (rd + 1))) (ty := .int) (C := RX11) (T := TX11) (N := 55) hx hb hts inX11 tyX11 tyX11_ok nmX11 hown hK hP hD hS 0 rfl rfl 20 (by decide) (hts _ mw_1179) (fun _ h9 => h9) rfl (by decide +kernel) rfl rfl (Nat.le_of_ble_eq_true rfl) dX11_undo_35 (fun H locs hP hD hS => ?_)
    obtain ⟨hP, hD⟩ : zPD (dC, dI) classes A [(om k0 a (upd (upd I0 19 (nI (dn - 1))) 20 (nI (rd + 1))) J0), (oa (a 1) cI 201 kd), (oa (a 5) cI 201 st), (oa (a 7) cI 201 gb), (oa (a 10) cI 201 it), (oa (a 8) cI 201 pa), (oa (a 9) cI 201 pb), (oa (a 2) cI 201 rk), (oa (a 3) cI 201 wd), (oa (a 4) cI 201 tw), (oa (a 6) cZ 201 tn), (oa (a 11) cI 201 mn), (oa (a 12) cI 8040 cx), (oa (a 13) cI 8040 cy), (oa (a 27) cI 516 sa), (oa (a 28) cI (4096 * cp) sh)] H := ⟨hP, hD⟩
    refine lv_aload_n hx hb dX11_undo_38 rfl (lv_at hl 0 rfl) ?_
    refine lv_aload_n hx hb dX11_undo_39 rfl (lv_at hl 0 rfl) ?_
    refine va_get (D := (dC, dI)) (ci := 9) (v := .int (nI (dn - 1))) (C := RX11) (T := TX11) (N := 55) hx hb hts inX11 hown hK hP 0 rfl rfl 19 (Nat.le_of_ble_eq_true rfl) (hts _ mw_1178) (fun _ h9 => h9) rfl dX11_undo_40 ?_
    refine lv_aload_n hx hb dX11_undo_43 rfl (lv_at hl 0 rfl) ?_
    refine va_get (D := (dC, dI)) (ci := 9) (v := .int (I0 21)) (C := RX11) (T := TX11) (N := 55) hx hb hts inX11 hown hK hP 0 rfl rfl 21 (Nat.le_of_ble_eq_true rfl) (hts _ mw_1180) (fun _ h9 => h9) rfl dX11_undo_44 ?_
    refine zz_i (v := nI bs) (hbs) ?_
    refine lv_isub hx hb dX11_undo_47 ?_
    refine zz_i (v := nI ((dn - 1) - bs)) (pk_sub (a := dn - 1) (b := bs) (by omega)) ?_
    obtain ⟨hPc, hDc, hFc⟩ := zc_sub (wc := [(om k0 a (upd (upd I0 19 (nI (dn - 1))) 20 (nI (rd + 1))) J0), (oa (a 1) cI 201 kd), (oa (a 5) cI 201 st), (oa (a 7) cI 201 gb), (oa (a 10) cI 201 it), (oa (a 8) cI 201 pa), (oa (a 9) cI 201 pb), (oa (a 2) cI 201 rk), (oa (a 3) cI 201 wd), (oa (a 4) cI 201 tw), (oa (a 6) cZ 201 tn), (oa (a 11) cI 201 mn), (oa (a 12) cI 8040 cx), (oa (a 13) cI 8040 cy), (oa (a 27) cI 516 sa), (oa (a 28) cI (4096 * cp) sh)]) hP hD hS hA [0, 1, 2, 3, 4, 5, 6, 7, 8, 9, 10, 11, 12, 13, 14, 15] rfl rfl
    refine zcall (st1 := []) (va_runV (As := [.int (nI ((dn - 1) - bs))]) (rest := []) ⟨hx, hb, hml, hown, hts⟩ (k_M_restore l dC dI cI cZ cF H.size k0 a (upd (upd I0 19 (nI (dn - 1))) 20 (nI (rd + 1))) J0 ((dn - 1) - bs) ft1 w0 cp nn D kd st gb it pa pb rk wd tw tn mn cx cy sa sh (by first | with_reducible assumption | omega) (by first | with_reducible assumption | assumption) (by first | with_reducible assumption | assumption) (by first | with_reducible assumption | omega) (by first | with_reducible assumption | assumption) (by first | with_reducible assumption | assumption) (by first | with_reducible assumption | assumption) (by first | with_reducible assumption | assumption) (by first | with_reducible assumption | omega)) (csV_199 hts rfl rfl ⟨Nat.le_of_ble_eq_true rfl, Nat.le_of_ble_eq_true rfl⟩) (zPV2 (q0 := 0) (ci := 9) hPc hDc hK hXN rfl rfl) rfl rfl hl.1 rfl (lv_room (Nat.le_of_ble_eq_true rfl)) dX11_undo_48 ⟨Nat.le_of_ble_eq_true rfl, Nat.le_of_ble_eq_true rfl⟩) hS hFc hFc rfl (fun t H locs ht hB hk1 hS => ?_)
    obtain ⟨hP1, hD1⟩ := hB
    rw [ht] at hP1
    obtain ⟨hP, hD⟩ := zk (W2 := [(om k0 a (upd (upd (upd (upd I0 0 (nI ft1)) 19 (nI (dn - 1))) 20 (nI (rd + 1))) 42 (nI (psN nn w0 ft1))) J0), (oa (a 1) cI 201 (rsA ft1 (fun g => D g 0) kd)), (oa (a 5) cI 201 (rsA ft1 (fun g => D g 1) st)), (oa (a 7) cI 201 (rsA ft1 (fun g => D g 2) gb)), (oa (a 10) cI 201 (rsA ft1 (fun g => D g 3) it)), (oa (a 8) cI 201 (rsA ft1 (fun g => D g 4) pa)), (oa (a 9) cI 201 (rsA ft1 (fun g => D g 5) pb)), (oa (a 2) cI 201 (rsA ft1 (fun g => D g 6) rk)), (oa (a 3) cI 201 (rsA ft1 (fun g => D g 7) wd)), (oa (a 4) cI 201 (rsA ft1 (fun g => D g 8) tw)), (oa (a 6) cZ 201 tn), (oa (a 11) cI 201 (rsM ft1 D nn tn mn)), (oa (a 12) cI 8040 (rsC ft1 0 D nn 10 cx)), (oa (a 13) cI 8040 (rsC ft1 0 D nn 11 cy)), (oa (a 27) cI 516 sa), (oa (a 28) cI (4096 * cp) sh)]) hP hD [0, 1, 2, 3, 4, 5, 6, 7, 8, 9, 10, 11, 12, 13, 14, 15] [] [] [0, 1, 2, 3, 4, 5, 6, 7, 8, 9, 10, 11, 12, 13, 14, 15] [0, 1, 2, 3, 4, 5, 6, 7, 8, 9, 10, 11, 12, 13, 14, 15] 16 rfl rfl rfl rfl rfl rfl rfl rfl rfl hk1 hFc hP1 hD1
    clear hk1 hPc hDc hFc hP1 hD1 ht
    refine lv_aload_n hx hb dX11_undo_51 rfl (lv_at hl 0 rfl) ?_
    refine lv_iconst (v := 0) hx hb dX11_undo_52 rfl ?_
    refine va_put (D := (dC, dI)) (ci := 9) (v := .int 0) (ty := .int) (C := RX11) (T := TX11) (N := 55) hx hb hts inX11 tyX11 tyX11_ok nmX11 hown hK hP hD hS 0 rfl rfl 14 (by decide) (hts _ mw_1173) (fun _ h9 => h9) rfl (by decide +kernel) rfl rfl (Nat.le_of_ble_eq_true rfl) dX11_undo_53 (fun H locs hP hD hS => ?_)
    obtain ⟨hP, hD⟩ : zPD (dC, dI) classes A [(om k0 a (upd (upd (upd (upd (upd I0 0 (nI ft1)) 14 0) 19 (nI (dn - 1))) 20 (nI (rd + 1))) 42 (nI (psN nn w0 ft1))) J0), (oa (a 1) cI 201 (rsA ft1 (fun g => D g 0) kd)), (oa (a 5) cI 201 (rsA ft1 (fun g => D g 1) st)), (oa (a 7) cI 201 (rsA ft1 (fun g => D g 2) gb)), (oa (a 10) cI 201 (rsA ft1 (fun g => D g 3) it)), (oa (a 8) cI 201 (rsA ft1 (fun g => D g 4) pa)), (oa (a 9) cI 201 (rsA ft1 (fun g => D g 5) pb)), (oa (a 2) cI 201 (rsA ft1 (fun g => D g 6) rk)), (oa (a 3) cI 201 (rsA ft1 (fun g => D g 7) wd)), (oa (a 4) cI 201 (rsA ft1 (fun g => D g 8) tw)), (oa (a 6) cZ 201 tn), (oa (a 11) cI 201 (rsM ft1 D nn tn mn)), (oa (a 12) cI 8040 (rsC ft1 0 D nn 10 cx)), (oa (a 13) cI 8040 (rsC ft1 0 D nn 11 cy)), (oa (a 27) cI 516 sa), (oa (a 28) cI (4096 * cp) sh)] H := ⟨hP, hD⟩
    refine lv_aload_n hx hb dX11_undo_56 rfl (lv_at hl 0 rfl) ?_
    refine va_get (D := (dC, dI)) (ci := 9) (v := .int (nI (dn - 1))) (C := RX11) (T := TX11) (N := 55) hx hb hts inX11 hown hK hP 0 rfl rfl 19 (Nat.le_of_ble_eq_true rfl) (hts _ mw_1178) (fun _ h9 => h9) rfl dX11_undo_57 ?_
    refine lv_iconst (v := 1) hx hb dX11_undo_60 rfl ?_
    refine lv_iadd hx hb dX11_undo_61 ?_
    refine zz_i (v := nI ((dn - 1) + 1)) (nI_add (dn - 1) 1) ?_
    obtain ⟨hP9, hD9⟩ := zq_sub (wc := [(om k0 a (upd (upd (upd (upd (upd I0 0 (nI ft1)) 14 0) 19 (nI (dn - 1))) 20 (nI (rd + 1))) 42 (nI (psN nn w0 ft1))) J0), (oa (a 1) cI 201 (rsA ft1 (fun g => D g 0) kd)), (oa (a 5) cI 201 (rsA ft1 (fun g => D g 1) st)), (oa (a 7) cI 201 (rsA ft1 (fun g => D g 2) gb)), (oa (a 10) cI 201 (rsA ft1 (fun g => D g 3) it)), (oa (a 8) cI 201 (rsA ft1 (fun g => D g 4) pa)), (oa (a 9) cI 201 (rsA ft1 (fun g => D g 5) pb)), (oa (a 2) cI 201 (rsA ft1 (fun g => D g 6) rk)), (oa (a 3) cI 201 (rsA ft1 (fun g => D g 7) wd)), (oa (a 4) cI 201 (rsA ft1 (fun g => D g 8) tw)), (oa (a 6) cZ 201 tn), (oa (a 11) cI 201 (rsM ft1 D nn tn mn)), (oa (a 12) cI 8040 (rsC ft1 0 D nn 10 cx)), (oa (a 13) cI 8040 (rsC ft1 0 D nn 11 cy)), (oa (a 27) cI 516 sa), (oa (a 28) cI (4096 * cp) sh)]) hP hD [0, 1, 2, 3, 4, 5, 6, 7, 8, 9, 10, 11, 12, 13, 14, 15] rfl rfl
    rw [hQ9]
    exact W.iret (v := nI ((dn - 1) + 1)) hx hb hr (fun t ht hW => ⟨⟨rfl, by rw [ht]; exact hP9, hD9⟩, hS.F ht⟩) hS.2.2 dX11_undo_62
  · have c_1 : ((dn : Nat) : Int) = ((bs : Nat) : Int) := zc_eq (nI_toInt b9_2) (nI_toInt b9_3) c_1
    exfalso; omega
set_option maxHeartbeats 4000000 in
set_option maxRecDepth 100000 in
theorem k_M_redo_ok (l : Launch) (dC : Nat → ClassId) (dI : Nat → Nat → Nat) (cI cZ cF : ClassId) (sz : Nat) (k0 : Nat) (a : Nat → Nat) (I0 : Nat → Int32) (J0 : Nat → Int64) (dn : Nat) (bs : Nat) (rd : Nat) (ft1 : Nat) (w0 : Nat) (cp : Nat) (nn : Nat → Nat) (D : Nat → Nat → Int32) (kd : Nat → Int32) (st : Nat → Int32) (gb : Nat → Int32) (it : Nat → Int32) (pa : Nat → Int32) (pb : Nat → Int32) (rk : Nat → Int32) (wd : Nat → Int32) (tw : Nat → Int32) (tn : Nat → Int32) (mn : Nat → Int32) (cx : Nat → Int32) (cy : Nat → Int32) (sa : Nat → Int32) (sh : Nat → Int32) (hdn : I0 19 = nI dn) (hbs : I0 21 = nI bs) (hbd : bs ≤ dn) (hd512 : dn ≤ 512) (hrd : I0 20 = nI rd) (hr512 : rd ≤ 512) (hlt : 0 < rd) (hi5 : (dn + 1 - bs) < 516) (hsa : sa (dn + 1 - bs) = nI w0) (hft1 : sh w0 = nI ft1) (h200 : ft1 ≤ 200) (hblk : ∀ g, g < ft1 → ∀ j, j < 10 + 2 * nn g → sh (psN nn w0 g + j) = D g j) (h9 : ∀ g, g < ft1 → D g 9 = nI (nn g)) (hn40 : ∀ g, g < ft1 → nn g ≤ 40) (hfit : psN nn w0 ft1 ≤ 4096 * cp) (hcm : cp ≤ 512) : Met l yX11_redo (.code yX11_redo cX11_redo 1 (some .int) :: ws0) ({ frames := 2, cells := 0, slots := 0, locals := 44 } : Room) (va_Pc [.ref k0] (zPre (dC, dI) classes (zTy cI cZ cF) [(om k0 a I0 J0), (oa (a 1) cI 201 kd), (oa (a 5) cI 201 st), (oa (a 7) cI 201 gb), (oa (a 10) cI 201 it), (oa (a 8) cI 201 pa), (oa (a 9) cI 201 pb), (oa (a 2) cI 201 rk), (oa (a 3) cI 201 wd), (oa (a 4) cI 201 tw), (oa (a 6) cZ 201 tn), (oa (a 11) cI 201 mn), (oa (a 12) cI 8040 cx), (oa (a 13) cI 8040 cy), (oa (a 27) cI 516 sa), (oa (a 28) cI (4096 * cp) sh)] sz zXN)) (zQ (some (.int (nI (dn + 1)))) (fun t => va_P (dC, dI) classes [(om k0 a (upd (upd (upd (upd (upd I0 0 (nI ft1)) 14 0) 19 (nI (dn + 1))) 20 (nI (rd - 1))) 42 (nI (psN nn w0 ft1))) J0), (oa (a 1) cI 201 (rsA ft1 (fun g => D g 0) kd)), (oa (a 5) cI 201 (rsA ft1 (fun g => D g 1) st)), (oa (a 7) cI 201 (rsA ft1 (fun g => D g 2) gb)), (oa (a 10) cI 201 (rsA ft1 (fun g => D g 3) it)), (oa (a 8) cI 201 (rsA ft1 (fun g => D g 4) pa)), (oa (a 9) cI 201 (rsA ft1 (fun g => D g 5) pb)), (oa (a 2) cI 201 (rsA ft1 (fun g => D g 6) rk)), (oa (a 3) cI 201 (rsA ft1 (fun g => D g 7) wd)), (oa (a 4) cI 201 (rsA ft1 (fun g => D g 8) tw)), (oa (a 6) cZ 201 tn), (oa (a 11) cI 201 (rsM ft1 D nn tn mn)), (oa (a 12) cI 8040 (rsC ft1 0 D nn 10 cx)), (oa (a 13) cI 8040 (rsC ft1 0 D nn 11 cy)), (oa (a 27) cI 516 sa), (oa (a 28) cI (4096 * cp) sh)] t.heap ∧ va_D (va_A [(om k0 a I0 J0), (oa (a 1) cI 201 kd), (oa (a 5) cI 201 st), (oa (a 7) cI 201 gb), (oa (a 10) cI 201 it), (oa (a 8) cI 201 pa), (oa (a 9) cI 201 pb), (oa (a 2) cI 201 rk), (oa (a 3) cI 201 wd), (oa (a 4) cI 201 tw), (oa (a 6) cZ 201 tn), (oa (a 11) cI 201 mn), (oa (a 12) cI 8040 cx), (oa (a 13) cI 8040 cy), (oa (a 27) cI 516 sa), (oa (a 28) cI (4096 * cp) sh)] sz) [(om k0 a (upd (upd (upd (upd (upd I0 0 (nI ft1)) 14 0) 19 (nI (dn + 1))) 20 (nI (rd - 1))) 42 (nI (psN nn w0 ft1))) J0), (oa (a 1) cI 201 (rsA ft1 (fun g => D g 0) kd)), (oa (a 5) cI 201 (rsA ft1 (fun g => D g 1) st)), (oa (a 7) cI 201 (rsA ft1 (fun g => D g 2) gb)), (oa (a 10) cI 201 (rsA ft1 (fun g => D g 3) it)), (oa (a 8) cI 201 (rsA ft1 (fun g => D g 4) pa)), (oa (a 9) cI 201 (rsA ft1 (fun g => D g 5) pb)), (oa (a 2) cI 201 (rsA ft1 (fun g => D g 6) rk)), (oa (a 3) cI 201 (rsA ft1 (fun g => D g 7) wd)), (oa (a 4) cI 201 (rsA ft1 (fun g => D g 8) tw)), (oa (a 6) cZ 201 tn), (oa (a 11) cI 201 (rsM ft1 D nn tn mn)), (oa (a 12) cI 8040 (rsC ft1 0 D nn 10 cx)), (oa (a 13) cI 8040 (rsC ft1 0 D nn 11 cy)), (oa (a 27) cI 516 sa), (oa (a 28) cI (4096 * cp) sh)]) (va_A [(om k0 a I0 J0), (oa (a 1) cI 201 kd), (oa (a 5) cI 201 st), (oa (a 7) cI 201 gb), (oa (a 10) cI 201 it), (oa (a 8) cI 201 pa), (oa (a 9) cI 201 pb), (oa (a 2) cI 201 rk), (oa (a 3) cI 201 wd), (oa (a 4) cI 201 tw), (oa (a 6) cZ 201 tn), (oa (a 11) cI 201 mn), (oa (a 12) cI 8040 cx), (oa (a 13) cI 8040 cy), (oa (a 27) cI 516 sa), (oa (a 28) cI (4096 * cp) sh)] sz)) 0 0 (va_A [(om k0 a I0 J0), (oa (a 1) cI 201 kd), (oa (a 5) cI 201 st), (oa (a 7) cI 201 gb), (oa (a 10) cI 201 it), (oa (a 8) cI 201 pa), (oa (a 9) cI 201 pb), (oa (a 2) cI 201 rk), (oa (a 3) cI 201 wd), (oa (a 4) cI 201 tw), (oa (a 6) cZ 201 tn), (oa (a 11) cI 201 mn), (oa (a 12) cI 8040 cx), (oa (a 13) cI 8040 cy), (oa (a 27) cI 516 sa), (oa (a 28) cI (4096 * cp) sh)] sz) := by
  refine Met.ofW (cc := cX11_redo) (maxL := 1) (ret := (some .int)) rfl rfl ?_
  intro p e s m args below meth c s₁ B hml hv
  obtain ⟨rfl, hsz, hP, hK, hD0, hXN⟩ := hv
  have hx := B.exec
  have hb := B.bytes
  have hr := B.returns
  have hts0 := atoms_spec (ws := .code yX11_redo cX11_redo 1 (some .int) :: ws0) B.pre
  have hts : ∀ w9 ∈ ws0, w9.before ([.ref k0] : List Value).toArray s = true := fun w9 h => hts0 w9 (List.mem_cons_of_mem _ h)
  have hown : s.vm.findClass "ScaleShopModel" = some m.cls := findClass_of_methodNamed B.named
  have hlocks := B.notSynchronized
  subst hsz
  have hD := hD0.self (sz := s.heap.size)
  clear hD0
  generalize hAe : va_A [(om k0 a I0 J0), (oa (a 1) cI 201 kd), (oa (a 5) cI 201 st), (oa (a 7) cI 201 gb), (oa (a 10) cI 201 it), (oa (a 8) cI 201 pa), (oa (a 9) cI 201 pb), (oa (a 2) cI 201 rk), (oa (a 3) cI 201 wd), (oa (a 4) cI 201 tw), (oa (a 6) cZ 201 tn), (oa (a 11) cI 201 mn), (oa (a 12) cI 8040 cx), (oa (a 13) cI 8040 cy), (oa (a 27) cI 516 sa), (oa (a 28) cI (4096 * cp) sh)] s.heap.size = A at hD ⊢
  have hA : ∀ q : Nat, s.heap.size ≤ q → A q := fun q h => by rw [← hAe]; exact Or.inr h
  clear hAe
  have hS : va_S A s.heap s.heap [] := va_S.rf
  have hP : va_P (dC, dI) classes [(om k0 a I0 J0), (oa (a 1) cI 201 kd), (oa (a 5) cI 201 st), (oa (a 7) cI 201 gb), (oa (a 10) cI 201 it), (oa (a 8) cI 201 pa), (oa (a 9) cI 201 pb), (oa (a 2) cI 201 rk), (oa (a 3) cI 201 wd), (oa (a 4) cI 201 tw), (oa (a 6) cZ 201 tn), (oa (a 11) cI 201 mn), (oa (a 12) cI 8040 cx), (oa (a 13) cI 8040 cy), (oa (a 27) cI 516 sa), (oa (a 28) cI (4096 * cp) sh)] s.heap := hP
  obtain ⟨Q9, hQ9⟩ : ∃ Q9 : State → Prop, Q9 = MQ below (zQ (some (.int (nI (dn + 1)))) (fun t => va_P (dC, dI) classes [(om k0 a (upd (upd (upd (upd (upd I0 0 (nI ft1)) 14 0) 19 (nI (dn + 1))) 20 (nI (rd - 1))) 42 (nI (psN nn w0 ft1))) J0), (oa (a 1) cI 201 (rsA ft1 (fun g => D g 0) kd)), (oa (a 5) cI 201 (rsA ft1 (fun g => D g 1) st)), (oa (a 7) cI 201 (rsA ft1 (fun g => D g 2) gb)), (oa (a 10) cI 201 (rsA ft1 (fun g => D g 3) it)), (oa (a 8) cI 201 (rsA ft1 (fun g => D g 4) pa)), (oa (a 9) cI 201 (rsA ft1 (fun g => D g 5) pb)), (oa (a 2) cI 201 (rsA ft1 (fun g => D g 6) rk)), (oa (a 3) cI 201 (rsA ft1 (fun g => D g 7) wd)), (oa (a 4) cI 201 (rsA ft1 (fun g => D g 8) tw)), (oa (a 6) cZ 201 tn), (oa (a 11) cI 201 (rsM ft1 D nn tn mn)), (oa (a 12) cI 8040 (rsC ft1 0 D nn 10 cx)), (oa (a 13) cI 8040 (rsC ft1 0 D nn 11 cy)), (oa (a 27) cI 516 sa), (oa (a 28) cI (4096 * cp) sh)] t.heap ∧ va_D A [(om k0 a (upd (upd (upd (upd (upd I0 0 (nI ft1)) 14 0) 19 (nI (dn + 1))) 20 (nI (rd - 1))) 42 (nI (psN nn w0 ft1))) J0), (oa (a 1) cI 201 (rsA ft1 (fun g => D g 0) kd)), (oa (a 5) cI 201 (rsA ft1 (fun g => D g 1) st)), (oa (a 7) cI 201 (rsA ft1 (fun g => D g 2) gb)), (oa (a 10) cI 201 (rsA ft1 (fun g => D g 3) it)), (oa (a 8) cI 201 (rsA ft1 (fun g => D g 4) pa)), (oa (a 9) cI 201 (rsA ft1 (fun g => D g 5) pb)), (oa (a 2) cI 201 (rsA ft1 (fun g => D g 6) rk)), (oa (a 3) cI 201 (rsA ft1 (fun g => D g 7) wd)), (oa (a 4) cI 201 (rsA ft1 (fun g => D g 8) tw)), (oa (a 6) cZ 201 tn), (oa (a 11) cI 201 (rsM ft1 D nn tn mn)), (oa (a 12) cI 8040 (rsC ft1 0 D nn 10 cx)), (oa (a 13) cI 8040 (rsC ft1 0 D nn 11 cy)), (oa (a 27) cI 516 sa), (oa (a 28) cI (4096 * cp) sh)]) A) ([.ref k0] : List Value).toArray s 0 0 A := ⟨_, rfl⟩
  rw [← hQ9]
  have hl := lv_entry ([.ref k0]) (n := 1) (Nat.le_of_ble_eq_true rfl)
  rw [lg_entry_eq]
  generalize (lg_sl ([.ref k0]) ++ List.replicate (1 - (lg_sl ([.ref k0])).length) Slot.unset).toArray = ls at hl ⊢
  have hl : lv_has ls 1 [(0, .ref k0)] := hl
  refine lv_aload_n hx hb dX11_redo_0 rfl (lv_at hl 0 rfl) ?_
  refine va_get (D := (dC, dI)) (ci := 9) (v := .int (I0 20)) (C := RX11) (T := TX11) (N := 55) hx hb hts inX11 hown hK hP 0 rfl rfl 20 (Nat.le_of_ble_eq_true rfl) (hts _ mw_1179) (fun _ h9 => h9) rfl dX11_redo_1 ?_
  refine zz_i (v := nI rd) (hrd) ?_
  have b9_2 : rd < 2147483648 := by omega
  refine lv_if_ne (tgt := 14) hx hb dX11_redo_4 rfl (fun c_1 => ?_) (fun c_1 => ?_)
  · have c_1 : ¬ ((rd : Nat) : Int) = 0 := zc_ne (nI_toInt b9_2) rfl c_1
    refine lv_aload_n hx hb dX11_redo_14 rfl (lv_at hl 0 rfl) ?_
    refine lv_dup hx hb dX11_redo_15 rfl ?_
    refine va_get (D := (dC, dI)) (ci := 9) (v := .int (I0 19)) (C := RX11) (T := TX11) (N := 55) hx hb hts inX11 hown hK hP 0 rfl rfl 19 (Nat.le_of_ble_eq_true rfl) (hts _ mw_1178) (fun _ h9 => h9) rfl dX11_redo_16 ?_
    refine zz_i (v := nI dn) (hdn) ?_
    refine lv_iconst (v := 1) hx hb dX11_redo_19 rfl ?_
    refine lv_iadd hx hb dX11_redo_20 ?_
    refine zz_i (v := nI (dn + 1)) (nI_add dn 1) ?_
    refine va_put (D := (dC, dI)) (ci := 9) (v := .int (nI (dn + 1))) (ty := .int) (C := RX11) (T := TX11) (N := 55) hx hb hts inX11 tyX11 tyX11_ok nmX11 hown hK hP hD hS 0 rfl rfl 19 (by decide) (hts _ mw_1178) (fun _ h9 => h9) rfl (by decide +kernel) rfl rfl (Nat.le_of_ble_eq_true rfl) dX11_redo_21 (fun H locs hP hD hS => ?_)
    obtain ⟨hP, hD⟩ : zPD (dC, dI) classes A [(om k0 a (upd I0 19 (nI (dn + 1))) J0), (oa (a 1) cI 201 kd), (oa (a 5) cI 201 st), (oa (a 7) cI 201 gb), (oa (a 10) cI 201 it), (oa (a 8) cI 201 pa), (oa (a 9) cI 201 pb), (oa (a 2) cI 201 rk), (oa (a 3) cI 201 wd), (oa (a 4) cI 201 tw), (oa (a 6) cZ 201 tn), (oa (a 11) cI 201 mn), (oa (a 12) cI 8040 cx), (oa (a 13) cI 8040 cy), (oa (a 27) cI 516 sa), (oa (a 28) cI (4096 * cp) sh)] H := ⟨hP, hD⟩
    refine lv_aload_n hx hb dX11_redo_24 rfl (lv_at hl 0 rfl) ?_
    refine lv_dup hx hb dX11_redo_25 rfl ?_
    refine va_get (D := (dC, dI)) (ci := 9) (v := .int (I0 20)) (C := RX11) (T := TX11) (N := 55) hx hb hts inX11 hown hK hP 0 rfl rfl 20 (Nat.le_of_ble_eq_true rfl) (hts _ mw_1179) (fun _ h9 => h9) rfl dX11_redo_26 ?_
    refine zz_i (v := nI rd) (hrd) ?_
    refine lv_iconst (v := 1) hx hb dX11_redo_29 rfl ?_
    refine lv_isub hx hb dX11_redo_30 ?_
    refine zz_i (v := nI (rd - 1)) (pk_sub (a := rd) (b := 1) (by omega)) ?_
    refine va_put (D := (dC, dI)) (ci := 9) (v := .int (nI (rd - 1))) (ty := .int) (C := RX11) (T := TX11) (N := 55) hx hb hts inX11 tyX11 tyX11_ok nmX11 hown hK hP hD hS 0 rfl rfl 20 (by decide) (hts _ mw_1179) (fun _ h9 => h9) rfl (by decide +kernel) rfl rfl (Nat.le_of_ble_eq_true rfl) dX11_redo_31 (fun H locs hP hD hS => ?_)
    obtain ⟨hP, hD⟩ : zPD (dC, dI) classes A [(om k0 a (upd (upd I0 19 (nI (dn + 1))) 20 (nI (rd - 1))) J0), (oa (a 1) cI 201 kd), (oa (a 5) cI 201 st), (oa (a 7) cI 201 gb), (oa (a 10) cI 201 it), (oa (a 8) cI 201 pa), (oa (a 9) cI 201 pb), (oa (a 2) cI 201 rk), (oa (a 3) cI 201 wd), (oa (a 4) cI 201 tw), (oa (a 6) cZ 201 tn), (oa (a 11) cI 201 mn), (oa (a 12) cI 8040 cx), (oa (a 13) cI 8040 cy), (oa (a 27) cI 516 sa), (oa (a 28) cI (4096 * cp) sh)] H := ⟨hP, hD⟩
    refine lv_aload_n hx hb dX11_redo_34 rfl (lv_at hl 0 rfl) ?_
    refine lv_aload_n hx hb dX11_redo_35 rfl (lv_at hl 0 rfl) ?_
    refine va_get (D := (dC, dI)) (ci := 9) (v := .int (nI (dn + 1))) (C := RX11) (T := TX11) (N := 55) hx hb hts inX11 hown hK hP 0 rfl rfl 19 (Nat.le_of_ble_eq_true rfl) (hts _ mw_1178) (fun _ h9 => h9) rfl dX11_redo_36 ?_
    refine lv_aload_n hx hb dX11_redo_39 rfl (lv_at hl 0 rfl) ?_
    refine va_get (D := (dC, dI)) (ci := 9) (v := .int (I0 21)) (C := RX11) (T := TX11) (N := 55) hx hb hts inX11 hown hK hP 0 rfl rfl 21 (Nat.le_of_ble_eq_true rfl) (hts _ mw_1180) (fun _ h9 => h9) rfl dX11_redo_40 ?_
    refine zz_i (v := nI bs) (hbs) ?_
    refine lv_isub hx hb dX11_redo_43 ?_
    refine zz_i (v := nI ((dn + 1) - bs)) (pk_sub (a := dn + 1) (b := bs) (by omega)) ?_
    obtain ⟨hPc, hDc, hFc⟩ := zc_sub (wc := [(om k0 a (upd (upd I0 19 (nI (dn + 1))) 20 (nI (rd - 1))) J0), (oa (a 1) cI 201 kd), (oa (a 5) cI 201 st), (oa (a 7) cI 201 gb), (oa (a 10) cI 201 it), (oa (a 8) cI 201 pa), (oa (a 9) cI 201 pb), (oa (a 2) cI 201 rk), (oa (a 3) cI 201 wd), (oa (a 4) cI 201 tw), (oa (a 6) cZ 201 tn), (oa (a 11) cI 201 mn), (oa (a 12) cI 8040 cx), (oa (a 13) cI 8040 cy), (oa (a 27) cI 516 sa), (oa (a 28) cI (4096 * cp) sh)]) hP hD hS hA [0, 1, 2, 3, 4, 5, 6, 7, 8, 9, 10, 11, 12, 13, 14, 15] rfl rfl
    refine zcall (st1 := []) (va_runV (As := [.int (nI ((dn + 1) - bs))]) (rest := []) ⟨hx, hb, hml, hown, hts⟩ (k_M_restore l dC dI cI cZ cF H.size k0 a (upd (upd I0 19 (nI (dn + 1))) 20 (nI (rd - 1))) J0 ((dn + 1) - bs) ft1 w0 cp nn D kd st gb it pa pb rk wd tw tn mn cx cy sa sh (by first | with_reducible assumption | omega) (by first | with_reducible assumption | assumption) (by first | with_reducible assumption | assumption) (by first | with_reducible assumption | omega) (by first | with_reducible assumption | assumption) (by first | with_reducible assumption | assumption) (by first | with_reducible assumption | assumption) (by first | with_reducible assumption | assumption) (by first | with_reducible assumption | omega)) (csV_199 hts rfl rfl ⟨Nat.le_of_ble_eq_true rfl, Nat.le_of_ble_eq_true rfl⟩) (zPV2 (q0 := 0) (ci := 9) hPc hDc hK hXN rfl rfl) rfl rfl hl.1 rfl (lv_room (Nat.le_of_ble_eq_true rfl)) dX11_redo_44 ⟨Nat.le_of_ble_eq_true rfl, Nat.le_of_ble_eq_true rfl⟩) hS hFc hFc rfl (fun t H locs ht hB hk1 hS => ?_)
    obtain ⟨hP1, hD1⟩ := hB
    rw [ht] at hP1
    obtain ⟨hP, hD⟩ := zk (W2 := [(om k0 a (upd (upd (upd (upd I0 0 (nI ft1)) 19 (nI (dn + 1))) 20 (nI (rd - 1))) 42 (nI (psN nn w0 ft1))) J0), (oa (a 1) cI 201 (rsA ft1 (fun g => D g 0) kd)), (oa (a 5) cI 201 (rsA ft1 (fun g => D g 1) st)), (oa (a 7) cI 201 (rsA ft1 (fun g => D g 2) gb)), (oa (a 10) cI 201 (rsA ft1 (fun g => D g 3) it)), (oa (a 8) cI 201 (rsA ft1 (fun g => D g 4) pa)), (oa (a 9) cI 201 (rsA ft1 (fun g => D g 5) pb)), (oa (a 2) cI 201 (rsA ft1 (fun g => D g 6) rk)), (oa (a 3) cI 201 (rsA ft1 (fun g => D g 7) wd)), (oa (a 4) cI 201 (rsA ft1 (fun g => D g 8) tw)), (oa (a 6) cZ 201 tn), (oa (a 11) cI 201 (rsM ft1 D nn tn mn)), (oa (a 12) cI 8040 (rsC ft1 0 D nn 10 cx)), (oa (a 13) cI 8040 (rsC ft1 0 D nn 11 cy)), (oa (a 27) cI 516 sa), (oa (a 28) cI (4096 * cp) sh)]) hP hD [0, 1, 2, 3, 4, 5, 6, 7, 8, 9, 10, 11, 12, 13, 14, 15] [] [] [0, 1, 2, 3, 4, 5, 6, 7, 8, 9, 10, 11, 12, 13, 14, 15] [0, 1, 2, 3, 4, 5, 6, 7, 8, 9, 10, 11, 12, 13, 14, 15] 16 rfl rfl rfl rfl rfl rfl rfl rfl rfl hk1 hFc hP1 hD1
    clear hk1 hPc hDc hFc hP1 hD1 ht
    refine lv_aload_n hx hb dX11_redo_47 rfl (lv_at hl 0 rfl) ?_
    refine lv_iconst (v := 0) hx hb dX11_redo_48 rfl ?_
    refine va_put (D := (dC, dI)) (ci := 9) (v := .int 0) (ty := .int) (C := RX11) (T := TX11) (N := 55) hx hb hts inX11 tyX11 tyX11_ok nmX11 hown hK hP hD hS 0 rfl rfl 14 (by decide) (hts _ mw_1173) (fun _ h9 => h9) rfl (by decide +kernel) rfl rfl (Nat.le_of_ble_eq_true rfl) dX11_redo_49 (fun H locs hP hD hS => ?_)
    obtain ⟨hP, hD⟩ : zPD (dC, dI) classes A [(om k0 a (upd (upd (upd (upd (upd I0 0 (nI ft1)) 14 0) 19 (nI (dn + 1))) 20 (nI (rd - 1))) 42 (nI (psN nn w0 ft1))) J0), (oa (a 1) cI 201 (rsA ft1 (fun g => D g 0) kd)), (oa (a 5) cI 201 (rsA ft1 (fun g => D g 1) st)), (oa (a 7) cI 201 (rsA ft1 (fun g => D g 2) gb)), (oa (a 10) cI 201 (rsA ft1 (fun g => D g 3) it)), (oa (a 8) cI 201 (rsA ft1 (fun g => D g 4) pa)), (oa (a 9) cI 201 (rsA ft1 (fun g => D g 5) pb)), (oa (a 2) cI 201 (rsA ft1 (fun g => D g 6) rk)), (oa (a 3) cI 201 (rsA ft1 (fun g => D g 7) wd)), (oa (a 4) cI 201 (rsA ft1 (fun g => D g 8) tw)), (oa (a 6) cZ 201 tn), (oa (a 11) cI 201 (rsM ft1 D nn tn mn)), (oa (a 12) cI 8040 (rsC ft1 0 D nn 10 cx)), (oa (a 13) cI 8040 (rsC ft1 0 D nn 11 cy)), (oa (a 27) cI 516 sa), (oa (a 28) cI (4096 * cp) sh)] H := ⟨hP, hD⟩
    refine lv_aload_n hx hb dX11_redo_52 rfl (lv_at hl 0 rfl) ?_
    refine va_get (D := (dC, dI)) (ci := 9) (v := .int (nI (dn + 1))) (C := RX11) (T := TX11) (N := 55) hx hb hts inX11 hown hK hP 0 rfl rfl 19 (Nat.le_of_ble_eq_true rfl) (hts _ mw_1178) (fun _ h9 => h9) rfl dX11_redo_53 ?_
    obtain ⟨hP9, hD9⟩ := zq_sub (wc := [(om k0 a (upd (upd (upd (upd (upd I0 0 (nI ft1)) 14 0) 19 (nI (dn + 1))) 20 (nI (rd - 1))) 42 (nI (psN nn w0 ft1))) J0), (oa (a 1) cI 201 (rsA ft1 (fun g => D g 0) kd)), (oa (a 5) cI 201 (rsA ft1 (fun g => D g 1) st)), (oa (a 7) cI 201 (rsA ft1 (fun g => D g 2) gb)), (oa (a 10) cI 201 (rsA ft1 (fun g => D g 3) it)), (oa (a 8) cI 201 (rsA ft1 (fun g => D g 4) pa)), (oa (a 9) cI 201 (rsA ft1 (fun g => D g 5) pb)), (oa (a 2) cI 201 (rsA ft1 (fun g => D g 6) rk)), (oa (a 3) cI 201 (rsA ft1 (fun g => D g 7) wd)), (oa (a 4) cI 201 (rsA ft1 (fun g => D g 8) tw)), (oa (a 6) cZ 201 tn), (oa (a 11) cI 201 (rsM ft1 D nn tn mn)), (oa (a 12) cI 8040 (rsC ft1 0 D nn 10 cx)), (oa (a 13) cI 8040 (rsC ft1 0 D nn 11 cy)), (oa (a 27) cI 516 sa), (oa (a 28) cI (4096 * cp) sh)]) hP hD [0, 1, 2, 3, 4, 5, 6, 7, 8, 9, 10, 11, 12, 13, 14, 15] rfl rfl
    rw [hQ9]
    exact W.iret (v := nI (dn + 1)) hx hb hr (fun t ht hW => ⟨⟨rfl, by rw [ht]; exact hP9, hD9⟩, hS.F ht⟩) hS.2.2 dX11_redo_56
  · have c_1 : ((rd : Nat) : Int) = 0 := zc_eq (nI_toInt b9_2) rfl c_1
    exfalso; omega
set_option maxHeartbeats 4000000 in
set_option maxRecDepth 100000 in
theorem k_M_layBox (l : Launch) (dC : Nat → ClassId) (dI : Nat → Nat → Nat) (cI cZ cF : ClassId) (sz : Nat) (k0 : Nat) (a : Nat → Nat) (I0 : Nat → Int32) (J0 : Nat → Int64) (f : Nat) (kd : Nat → Int32) (mn : Nat → Int32) (cx : Nat → Int32) (cy : Nat → Int32) (hf_f : f ≤ 200) : Met l yX11_layBox (.code yX11_layBox cX11_layBox 3 none :: ws0) ({ frames := 0, cells := 0, slots := 0, locals := 0 } : Room) (va_Pc [.ref k0, .int (nI f)] (zPre (dC, dI) classes (zTy cI cZ cF) [(om k0 a I0 J0), (oa (a 1) cI 201 kd), (oa (a 11) cI 201 mn), (oa (a 12) cI 8040 cx), (oa (a 13) cI 8040 cy)] sz zXN)) (zQ none (fun t => va_P (dC, dI) classes [(om k0 a I0 J0), (oa (a 1) cI 201 (upd kd f 6)), (oa (a 11) cI 201 (upd mn f 4)), (oa (a 12) cI 8040 (bxX f (I0 44) (I0 46) 4 cx)), (oa (a 13) cI 8040 (bxY f (I0 45) (I0 47) 4 cy))] t.heap ∧ va_D (va_A [(om k0 a I0 J0), (oa (a 1) cI 201 kd), (oa (a 11) cI 201 mn), (oa (a 12) cI 8040 cx), (oa (a 13) cI 8040 cy)] sz) [(om k0 a I0 J0), (oa (a 1) cI 201 (upd kd f 6)), (oa (a 11) cI 201 (upd mn f 4)), (oa (a 12) cI 8040 (bxX f (I0 44) (I0 46) 4 cx)), (oa (a 13) cI 8040 (bxY f (I0 45) (I0 47) 4 cy))]) (va_A [(om k0 a I0 J0), (oa (a 1) cI 201 kd), (oa (a 11) cI 201 mn), (oa (a 12) cI 8040 cx), (oa (a 13) cI 8040 cy)] sz)) 0 0 (va_A [(om k0 a I0 J0), (oa (a 1) cI 201 kd), (oa (a 11) cI 201 mn), (oa (a 12) cI 8040 cx), (oa (a 13) cI 8040 cy)] sz) := by
  refine Met.ofW (cc := cX11_layBox) (maxL := 3) (ret := none) rfl rfl ?_
  intro p e s m args below meth c s₁ B hml hv
  obtain ⟨rfl, hsz, hP, hK, hD0, hXN⟩ := hv
  have hx := B.exec
  have hb := B.bytes
  have hr := B.returns
  have hts0 := atoms_spec (ws := .code yX11_layBox cX11_layBox 3 none :: ws0) B.pre
  have hts : ∀ w9 ∈ ws0, w9.before ([.ref k0, .int (nI f)] : List Value).toArray s = true := fun w9 h => hts0 w9 (List.mem_cons_of_mem _ h)
  have hown : s.vm.findClass "ScaleShopModel" = some m.cls := findClass_of_methodNamed B.named
  have hlocks := B.notSynchronized
  subst hsz
  have hD := hD0.self (sz := s.heap.size)
  clear hD0
  generalize hAe : va_A [(om k0 a I0 J0), (oa (a 1) cI 201 kd), (oa (a 11) cI 201 mn), (oa (a 12) cI 8040 cx), (oa (a 13) cI 8040 cy)] s.heap.size = A at hD ⊢
  have hA : ∀ q : Nat, s.heap.size ≤ q → A q := fun q h => by rw [← hAe]; exact Or.inr h
  clear hAe
  have hS : va_S A s.heap s.heap [] := va_S.rf
  have hP : va_P (dC, dI) classes [(om k0 a I0 J0), (oa (a 1) cI 201 kd), (oa (a 11) cI 201 mn), (oa (a 12) cI 8040 cx), (oa (a 13) cI 8040 cy)] s.heap := hP
  obtain ⟨Q9, hQ9⟩ : ∃ Q9 : State → Prop, Q9 = MQ below (zQ none (fun t => va_P (dC, dI) classes [(om k0 a I0 J0), (oa (a 1) cI 201 (upd kd f 6)), (oa (a 11) cI 201 (upd mn f 4)), (oa (a 12) cI 8040 (bxX f (I0 44) (I0 46) 4 cx)), (oa (a 13) cI 8040 (bxY f (I0 45) (I0 47) 4 cy))] t.heap ∧ va_D A [(om k0 a I0 J0), (oa (a 1) cI 201 (upd kd f 6)), (oa (a 11) cI 201 (upd mn f 4)), (oa (a 12) cI 8040 (bxX f (I0 44) (I0 46) 4 cx)), (oa (a 13) cI 8040 (bxY f (I0 45) (I0 47) 4 cy))]) A) ([.ref k0, .int (nI f)] : List Value).toArray s 0 0 A := ⟨_, rfl⟩
  rw [← hQ9]
  have hl := lv_entry ([.ref k0, .int (nI f)]) (n := 3) (Nat.le_of_ble_eq_true rfl)
  rw [lg_entry_eq]
  generalize (lg_sl ([.ref k0, .int (nI f)]) ++ List.replicate (3 - (lg_sl ([.ref k0, .int (nI f)])).length) Slot.unset).toArray = ls at hl ⊢
  have hl : lv_has ls 3 [(0, .ref k0), (1, .int (nI f))] := hl
  refine lv_aload_n hx hb dX11_layBox_0 rfl (lv_at hl 0 rfl) ?_
  refine va_get (D := (dC, dI)) (ci := 9) (v := .ref (a 11)) (C := RX11) (T := TX11) (N := 55) hx hb hts inX11 hown hK hP 0 rfl rfl 11 (Nat.le_of_ble_eq_true rfl) (hts _ mw_1170) (fun _ h9 => h9) rfl dX11_layBox_1 ?_
  refine lv_iload_n hx hb dX11_layBox_4 rfl (lv_at hl 1 rfl) ?_
  refine lv_iconst (v := 4) hx hb dX11_layBox_5 rfl ?_
  have b9_1 : f < 201 := by omega
  refine z_iast hx hb hK hP hD hS 2 0 rfl rfl (e := f) (x := 4) rfl b9_1 (Nat.le_of_ble_eq_true rfl) dX11_layBox_6 (fun H locs hP hD hS => ?_)
  obtain ⟨hP, hD⟩ : zPD (dC, dI) classes A [(om k0 a I0 J0), (oa (a 1) cI 201 kd), (oa (a 11) cI 201 (upd mn f 4)), (oa (a 12) cI 8040 cx), (oa (a 13) cI 8040 cy)] H := ⟨hP, hD⟩
  refine lv_iconst (v := 0) hx hb dX11_layBox_7 rfl ?_
  refine lv_istore_n (lv' := [(2, .int 0), (0, .ref k0), (1, .int (nI f))]) hx hb dX11_layBox_8 rfl hl (Nat.le_of_ble_eq_true rfl) rfl (fun ls hl => ?_)
  have hl_9 : ∀ (n9 : Nat) (k : Nat) (cx1 : Nat → Int32) (cy1 : Nat → Int32) (H : Heap) (locs : List Loc) (ls : Array Slot), 4 - k < n9 → (k ≤ 4) → (cx1 = bxX f (I0 44) (I0 46) k cx) → (cy1 = bxY f (I0 45) (I0 47) k cy) → va_P (dC, dI) classes [(om k0 a I0 J0), (oa (a 1) cI 201 kd), (oa (a 11) cI 201 (upd mn f 4)), (oa (a 12) cI 8040 cx1), (oa (a 13) cI 8040 cy1)] H → va_D A [(om k0 a I0 J0), (oa (a 1) cI 201 kd), (oa (a 11) cI 201 (upd mn f 4)), (oa (a 12) cI 8040 cx1), (oa (a 13) cI 8040 cy1)] → va_S A s.heap H locs → lv_has ls 3 [(2, .int (nI k)), (0, .ref k0), (1, .int (nI f))] → W p l e ((headSpec (.code yX11_layBox cX11_layBox 3 none :: ws0) ({ frames := 0, cells := 0, slots := 0, locals := 0 } : Room)).room) s m ([.ref k0, .int (nI f)] : List Value).toArray below meth c H locs 0 0 Q9 (F0 m 9 ls []) := by
    intro n9
    induction n9 with
    | zero => intro k cx1 cy1 H locs ls hm; exact absurd hm (Nat.not_lt_zero _)
    | succ n9 ih_9 =>
      intro k cx1 cy1 H locs ls hm hk hcx hcy hP hD hS hl
      refine lv_iload_n hx hb dX11_layBox_9 rfl (lv_at hl 0 rfl) ?_
      refine lv_iconst (v := 4) hx hb dX11_layBox_10 rfl ?_
      have b9_3 : k < 2147483648 := by omega
      refine lv_icmp_ge (tgt := 79) hx hb dX11_layBox_11 rfl (fun c_2 => ?_) (fun c_2 => ?_)
      · have c_2 : 4 ≤ ((k : Nat) : Int) := zc_le rfl (nI_toInt b9_3) c_2
        refine lv_aload_n hx hb dX11_layBox_79 rfl (lv_at hl 1 rfl) ?_
        refine va_get (D := (dC, dI)) (ci := 9) (v := .ref (a 1)) (C := RX11) (T := TX11) (N := 55) hx hb hts inX11 hown hK hP 0 rfl rfl 1 (Nat.le_of_ble_eq_true rfl) (hts _ mw_1160) (fun _ h9 => h9) rfl dX11_layBox_80 ?_
        refine lv_iload_n hx hb dX11_layBox_83 rfl (lv_at hl 2 rfl) ?_
        refine lv_bipush (v := 6) hx hb dX11_layBox_84 rfl ?_
        refine z_iast hx hb hK hP hD hS 1 0 rfl rfl (e := f) (x := 6) rfl b9_1 (Nat.le_of_ble_eq_true rfl) dX11_layBox_86 (fun H locs hP hD hS => ?_)
        obtain ⟨hP, hD⟩ : zPD (dC, dI) classes A [(om k0 a I0 J0), (oa (a 1) cI 201 (upd kd f 6)), (oa (a 11) cI 201 (upd mn f 4)), (oa (a 12) cI 8040 cx1), (oa (a 13) cI 8040 cy1)] H := ⟨hP, hD⟩
        have hk4 : k = 4 := (by omega)
        subst hk4
        obtain ⟨hP9, hD9⟩ := zq_sub (wc := [(om k0 a I0 J0), (oa (a 1) cI 201 (upd kd f 6)), (oa (a 11) cI 201 (upd mn f 4)), (oa (a 12) cI 8040 cx1), (oa (a 13) cI 8040 cy1)]) hP hD [0, 1, 2, 3, 4] rfl rfl
        have hE9 : ([(om k0 a I0 J0), (oa (a 1) cI 201 (upd kd f 6)), (oa (a 11) cI 201 (upd mn f 4)), (oa (a 12) cI 8040 cx1), (oa (a 13) cI 8040 cy1)] : va_W) = [(om k0 a I0 J0), (oa (a 1) cI 201 (upd kd f 6)), (oa (a 11) cI 201 (upd mn f 4)), (oa (a 12) cI 8040 (bxX f (I0 44) (I0 46) 4 cx)), (oa (a 13) cI 8040 (bxY f (I0 45) (I0 47) 4 cy))] := by rw [hcx, hcy]
        rw [hE9] at hP9 hD9
        rw [hQ9]
        exact W.vret hx hb hr (fun t ht hW => ⟨⟨rfl, by rw [ht]; exact hP9, hD9⟩, hS.F ht⟩) hS.2.2 dX11_layBox_87
      · have c_2 : ((k : Nat) : Int) < 4 := zc_nle rfl (nI_toInt b9_3) c_2
        refine lv_aload_n hx hb dX11_layBox_14 rfl (lv_at hl 1 rfl) ?_
        refine va_get (D := (dC, dI)) (ci := 9) (v := .ref (a 12)) (C := RX11) (T := TX11) (N := 55) hx hb hts inX11 hown hK hP 0 rfl rfl 12 (Nat.le_of_ble_eq_true rfl) (hts _ mw_1171) (fun _ h9 => h9) rfl dX11_layBox_15 ?_
        refine lv_bipush (v := 40) hx hb dX11_layBox_18 rfl ?_
        refine lv_iload_n hx hb dX11_layBox_20 rfl (lv_at hl 2 rfl) ?_
        refine lv_imul hx hb dX11_layBox_21 ?_
        refine zz_i (v := nI (40 * f)) (pk_mul 40 f) ?_
        refine lv_iload_n hx hb dX11_layBox_22 rfl (lv_at hl 0 rfl) ?_
        refine lv_iadd hx hb dX11_layBox_23 ?_
        refine zz_i (v := nI (40 * f + k)) (nI_add (40 * f) k) ?_
        refine lv_iload_n hx hb dX11_layBox_24 rfl (lv_at hl 0 rfl) ?_
        refine lv_iconst (v := 1) hx hb dX11_layBox_25 rfl ?_
        refine lv_icmp_eq (tgt := 34) hx hb dX11_layBox_26 rfl (fun c_4 => ?_) (fun c_4 => ?_)
        · have c_4 : ((k : Nat) : Int) = 1 := zc_eq (nI_toInt b9_3) rfl c_4
          refine lv_aload_n hx hb dX11_layBox_34 rfl (lv_at hl 1 rfl) ?_
          refine va_get (D := (dC, dI)) (ci := 9) (v := .int (I0 46)) (C := RX11) (T := TX11) (N := 55) hx hb hts inX11 hown hK hP 0 rfl rfl 46 (Nat.le_of_ble_eq_true rfl) (hts _ mw_1205) (fun _ h9 => h9) rfl dX11_layBox_35 ?_
          refine lv_goto (tgt := 45) hx hb dX11_layBox_38 rfl ?_
          have b9_5 : 40 * f + k < 8040 := by omega
          refine z_iast hx hb hK hP hD hS 3 0 rfl rfl (e := 40 * f + k) (x := I0 46) rfl b9_5 (Nat.le_of_ble_eq_true rfl) dX11_layBox_45 (fun H locs hP hD hS => ?_)
          obtain ⟨hP, hD⟩ : zPD (dC, dI) classes A [(om k0 a I0 J0), (oa (a 1) cI 201 kd), (oa (a 11) cI 201 (upd mn f 4)), (oa (a 12) cI 8040 (upd cx1 (40 * f + k) (I0 46))), (oa (a 13) cI 8040 cy1)] H := ⟨hP, hD⟩
          refine lv_aload_n hx hb dX11_layBox_46 rfl (lv_at hl 1 rfl) ?_
          refine va_get (D := (dC, dI)) (ci := 9) (v := .ref (a 13)) (C := RX11) (T := TX11) (N := 55) hx hb hts inX11 hown hK hP 0 rfl rfl 13 (Nat.le_of_ble_eq_true rfl) (hts _ mw_1172) (fun _ h9 => h9) rfl dX11_layBox_47 ?_
          refine lv_bipush (v := 40) hx hb dX11_layBox_50 rfl ?_
          refine lv_iload_n hx hb dX11_layBox_52 rfl (lv_at hl 2 rfl) ?_
          refine lv_imul hx hb dX11_layBox_53 ?_
          refine zz_i (v := nI (40 * f)) (pk_mul 40 f) ?_
          refine lv_iload_n hx hb dX11_layBox_54 rfl (lv_at hl 0 rfl) ?_
          refine lv_iadd hx hb dX11_layBox_55 ?_
          refine zz_i (v := nI (40 * f + k)) (nI_add (40 * f) k) ?_
          refine lv_iload_n hx hb dX11_layBox_56 rfl (lv_at hl 0 rfl) ?_
          refine lv_iconst (v := 1) hx hb dX11_layBox_57 rfl ?_
          refine lv_icmp_le (tgt := 68) hx hb dX11_layBox_58 rfl (fun c_6 => ?_) (fun c_6 => ?_)
          · have c_6 : ((k : Nat) : Int) ≤ 1 := zc_le (nI_toInt b9_3) rfl c_6
            refine lv_aload_n hx hb dX11_layBox_68 rfl (lv_at hl 1 rfl) ?_
            refine va_get (D := (dC, dI)) (ci := 9) (v := .int (I0 45)) (C := RX11) (T := TX11) (N := 55) hx hb hts inX11 hown hK hP 0 rfl rfl 45 (Nat.le_of_ble_eq_true rfl) (hts _ mw_1204) (fun _ h9 => h9) rfl dX11_layBox_69 ?_
            refine z_iast hx hb hK hP hD hS 4 0 rfl rfl (e := 40 * f + k) (x := I0 45) rfl b9_5 (Nat.le_of_ble_eq_true rfl) dX11_layBox_72 (fun H locs hP hD hS => ?_)
            obtain ⟨hP, hD⟩ : zPD (dC, dI) classes A [(om k0 a I0 J0), (oa (a 1) cI 201 kd), (oa (a 11) cI 201 (upd mn f 4)), (oa (a 12) cI 8040 (upd cx1 (40 * f + k) (I0 46))), (oa (a 13) cI 8040 (upd cy1 (40 * f + k) (I0 45)))] H := ⟨hP, hD⟩
            refine lv_iinc (v := nI (k + 1)) (lv' := [(2, .int (nI (k + 1))), (0, .ref k0), (1, .int (nI f))]) hx hb dX11_layBox_73 hl (k := 0) rfl (nI_add k 1) (Nat.le_of_ble_eq_true rfl) rfl (fun ls hl => ?_)
            refine lv_goto (tgt := 9) hx hb dX11_layBox_76 rfl ?_
            exact ih_9 (k + 1) (upd cx1 (40 * f + k) (I0 46)) (upd cy1 (40 * f + k) (I0 45)) H locs ls (by first | with_reducible assumption | omega) (by first | with_reducible assumption | omega) (bxX_s hcx (by first | (exfalso; omega) | (rw [if_pos (by first | with_reducible assumption | omega)]) | (rw [if_neg (by first | with_reducible assumption | omega)]))) (bxY_s hcy (by first | (exfalso; omega) | (rw [if_pos (by first | with_reducible assumption | omega)]) | (rw [if_neg (by first | with_reducible assumption | omega)]))) hP hD hS (lv_sub hl [0, 1, 2] rfl)
          · have c_6 : 1 < ((k : Nat) : Int) := zc_nle (nI_toInt b9_3) rfl c_6
            refine lv_aload_n hx hb dX11_layBox_61 rfl (lv_at hl 1 rfl) ?_
            refine va_get (D := (dC, dI)) (ci := 9) (v := .int (I0 47)) (C := RX11) (T := TX11) (N := 55) hx hb hts inX11 hown hK hP 0 rfl rfl 47 (Nat.le_of_ble_eq_true rfl) (hts _ mw_1206) (fun _ h9 => h9) rfl dX11_layBox_62 ?_
            refine lv_goto (tgt := 72) hx hb dX11_layBox_65 rfl ?_
            refine z_iast hx hb hK hP hD hS 4 0 rfl rfl (e := 40 * f + k) (x := I0 47) rfl b9_5 (Nat.le_of_ble_eq_true rfl) dX11_layBox_72 (fun H locs hP hD hS => ?_)
            obtain ⟨hP, hD⟩ : zPD (dC, dI) classes A [(om k0 a I0 J0), (oa (a 1) cI 201 kd), (oa (a 11) cI 201 (upd mn f 4)), (oa (a 12) cI 8040 (upd cx1 (40 * f + k) (I0 46))), (oa (a 13) cI 8040 (upd cy1 (40 * f + k) (I0 47)))] H := ⟨hP, hD⟩
            refine lv_iinc (v := nI (k + 1)) (lv' := [(2, .int (nI (k + 1))), (0, .ref k0), (1, .int (nI f))]) hx hb dX11_layBox_73 hl (k := 0) rfl (nI_add k 1) (Nat.le_of_ble_eq_true rfl) rfl (fun ls hl => ?_)
            refine lv_goto (tgt := 9) hx hb dX11_layBox_76 rfl ?_
            exact ih_9 (k + 1) (upd cx1 (40 * f + k) (I0 46)) (upd cy1 (40 * f + k) (I0 47)) H locs ls (by first | with_reducible assumption | omega) (by first | with_reducible assumption | omega) (bxX_s hcx (by first | (exfalso; omega) | (rw [if_pos (by first | with_reducible assumption | omega)]) | (rw [if_neg (by first | with_reducible assumption | omega)]))) (bxY_s hcy (by first | (exfalso; omega) | (rw [if_pos (by first | with_reducible assumption | omega)]) | (rw [if_neg (by first | with_reducible assumption | omega)]))) hP hD hS (lv_sub hl [0, 1, 2] rfl)
        · have c_4 : ¬ ((k : Nat) : Int) = 1 := zc_ne (nI_toInt b9_3) rfl c_4
          refine lv_iload_n hx hb dX11_layBox_29 rfl (lv_at hl 0 rfl) ?_
          refine lv_iconst (v := 2) hx hb dX11_layBox_30 rfl ?_
          refine lv_icmp_ne (tgt := 41) hx hb dX11_layBox_31 rfl (fun c_7 => ?_) (fun c_7 => ?_)
          · have c_7 : ¬ ((k : Nat) : Int) = 2 := zc_ne (nI_toInt b9_3) rfl c_7
            refine lv_aload_n hx hb dX11_layBox_41 rfl (lv_at hl 1 rfl) ?_
            refine va_get (D := (dC, dI)) (ci := 9) (v := .int (I0 44)) (C := RX11) (T := TX11) (N := 55) hx hb hts inX11 hown hK hP 0 rfl rfl 44 (Nat.le_of_ble_eq_true rfl) (hts _ mw_1203) (fun _ h9 => h9) rfl dX11_layBox_42 ?_
            have b9_8 : 40 * f + k < 8040 := by omega
            refine z_iast hx hb hK hP hD hS 3 0 rfl rfl (e := 40 * f + k) (x := I0 44) rfl b9_8 (Nat.le_of_ble_eq_true rfl) dX11_layBox_45 (fun H locs hP hD hS => ?_)
            obtain ⟨hP, hD⟩ : zPD (dC, dI) classes A [(om k0 a I0 J0), (oa (a 1) cI 201 kd), (oa (a 11) cI 201 (upd mn f 4)), (oa (a 12) cI 8040 (upd cx1 (40 * f + k) (I0 44))), (oa (a 13) cI 8040 cy1)] H := ⟨hP, hD⟩
            refine lv_aload_n hx hb dX11_layBox_46 rfl (lv_at hl 1 rfl) ?_
            refine va_get (D := (dC, dI)) (ci := 9) (v := .ref (a 13)) (C := RX11) (T := TX11) (N := 55) hx hb hts inX11 hown hK hP 0 rfl rfl 13 (Nat.le_of_ble_eq_true rfl) (hts _ mw_1172) (fun _ h9 => h9) rfl dX11_layBox_47 ?_
            refine lv_bipush (v := 40) hx hb dX11_layBox_50 rfl ?_
            refine lv_iload_n hx hb dX11_layBox_52 rfl (lv_at hl 2 rfl) ?_
            refine lv_imul hx hb dX11_layBox_53 ?_
            refine zz_i (v := nI (40 * f)) (pk_mul 40 f) ?_
            refine lv_iload_n hx hb dX11_layBox_54 rfl (lv_at hl 0 rfl) ?_
            refine lv_iadd hx hb dX11_layBox_55 ?_
            refine zz_i (v := nI (40 * f + k)) (nI_add (40 * f) k) ?_
            refine lv_iload_n hx hb dX11_layBox_56 rfl (lv_at hl 0 rfl) ?_
            refine lv_iconst (v := 1) hx hb dX11_layBox_57 rfl ?_
            refine lv_icmp_le (tgt := 68) hx hb dX11_layBox_58 rfl (fun c_9 => ?_) (fun c_9 => ?_)
            · have c_9 : ((k : Nat) : Int) ≤ 1 := zc_le (nI_toInt b9_3) rfl c_9
              refine lv_aload_n hx hb dX11_layBox_68 rfl (lv_at hl 1 rfl) ?_
              refine va_get (D := (dC, dI)) (ci := 9) (v := .int (I0 45)) (C := RX11) (T := TX11) (N := 55) hx hb hts inX11 hown hK hP 0 rfl rfl 45 (Nat.le_of_ble_eq_true rfl) (hts _ mw_1204) (fun _ h9 => h9) rfl dX11_layBox_69 ?_
              refine z_iast hx hb hK hP hD hS 4 0 rfl rfl (e := 40 * f + k) (x := I0 45) rfl b9_8 (Nat.le_of_ble_eq_true rfl) dX11_layBox_72 (fun H locs hP hD hS => ?_)
              obtain ⟨hP, hD⟩ : zPD (dC, dI) classes A [(om k0 a I0 J0), (oa (a 1) cI 201 kd), (oa (a 11) cI 201 (upd mn f 4)), (oa (a 12) cI 8040 (upd cx1 (40 * f + k) (I0 44))), (oa (a 13) cI 8040 (upd cy1 (40 * f + k) (I0 45)))] H := ⟨hP, hD⟩
              refine lv_iinc (v := nI (k + 1)) (lv' := [(2, .int (nI (k + 1))), (0, .ref k0), (1, .int (nI f))]) hx hb dX11_layBox_73 hl (k := 0) rfl (nI_add k 1) (Nat.le_of_ble_eq_true rfl) rfl (fun ls hl => ?_)
              refine lv_goto (tgt := 9) hx hb dX11_layBox_76 rfl ?_
              exact ih_9 (k + 1) (upd cx1 (40 * f + k) (I0 44)) (upd cy1 (40 * f + k) (I0 45)) H locs ls (by first | with_reducible assumption | omega) (by first | with_reducible assumption | omega) (bxX_s hcx (by first | (exfalso; omega) | (rw [if_pos (by first | with_reducible assumption | omega)]) | (rw [if_neg (by first | with_reducible assumption | omega)]))) (bxY_s hcy (by first | (exfalso; omega) | (rw [if_pos (by first | with_reducible assumption | omega)]) | (rw [if_neg (by first | with_reducible assumption | omega)]))) hP hD hS (lv_sub hl [0, 1, 2] rfl)
            · have c_9 : 1 < ((k : Nat) : Int) := zc_nle (nI_toInt b9_3) rfl c_9
              refine lv_aload_n hx hb dX11_layBox_61 rfl (lv_at hl 1 rfl) ?_
              refine va_get (D := (dC, dI)) (ci := 9) (v := .int (I0 47)) (C := RX11) (T := TX11) (N := 55) hx hb hts inX11 hown hK hP 0 rfl rfl 47 (Nat.le_of_ble_eq_true rfl) (hts _ mw_1206) (fun _ h9 => h9) rfl dX11_layBox_62 ?_
              refine lv_goto (tgt := 72) hx hb dX11_layBox_65 rfl ?_
              refine z_iast hx hb hK hP hD hS 4 0 rfl rfl (e := 40 * f + k) (x := I0 47) rfl b9_8 (Nat.le_of_ble_eq_true rfl) dX11_layBox_72 (fun H locs hP hD hS => ?_)
              obtain ⟨hP, hD⟩ : zPD (dC, dI) classes A [(om k0 a I0 J0), (oa (a 1) cI 201 kd), (oa (a 11) cI 201 (upd mn f 4)), (oa (a 12) cI 8040 (upd cx1 (40 * f + k) (I0 44))), (oa (a 13) cI 8040 (upd cy1 (40 * f + k) (I0 47)))] H := ⟨hP, hD⟩
              refine lv_iinc (v := nI (k + 1)) (lv' := [(2, .int (nI (k + 1))), (0, .ref k0), (1, .int (nI f))]) hx hb dX11_layBox_73 hl (k := 0) rfl (nI_add k 1) (Nat.le_of_ble_eq_true rfl) rfl (fun ls hl => ?_)
              refine lv_goto (tgt := 9) hx hb dX11_layBox_76 rfl ?_
              exact ih_9 (k + 1) (upd cx1 (40 * f + k) (I0 44)) (upd cy1 (40 * f + k) (I0 47)) H locs ls (by first | with_reducible assumption | omega) (by first | with_reducible assumption | omega) (bxX_s hcx (by first | (exfalso; omega) | (rw [if_pos (by first | with_reducible assumption | omega)]) | (rw [if_neg (by first | with_reducible assumption | omega)]))) (bxY_s hcy (by first | (exfalso; omega) | (rw [if_pos (by first | with_reducible assumption | omega)]) | (rw [if_neg (by first | with_reducible assumption | omega)]))) hP hD hS (lv_sub hl [0, 1, 2] rfl)
          · have c_7 : ((k : Nat) : Int) = 2 := zc_eq (nI_toInt b9_3) rfl c_7
            refine lv_aload_n hx hb dX11_layBox_34 rfl (lv_at hl 1 rfl) ?_
            refine va_get (D := (dC, dI)) (ci := 9) (v := .int (I0 46)) (C := RX11) (T := TX11) (N := 55) hx hb hts inX11 hown hK hP 0 rfl rfl 46 (Nat.le_of_ble_eq_true rfl) (hts _ mw_1205) (fun _ h9 => h9) rfl dX11_layBox_35 ?_
            refine lv_goto (tgt := 45) hx hb dX11_layBox_38 rfl ?_
            have b9_10 : 40 * f + k < 8040 := by omega
            refine z_iast hx hb hK hP hD hS 3 0 rfl rfl (e := 40 * f + k) (x := I0 46) rfl b9_10 (Nat.le_of_ble_eq_true rfl) dX11_layBox_45 (fun H locs hP hD hS => ?_)
            obtain ⟨hP, hD⟩ : zPD (dC, dI) classes A [(om k0 a I0 J0), (oa (a 1) cI 201 kd), (oa (a 11) cI 201 (upd mn f 4)), (oa (a 12) cI 8040 (upd cx1 (40 * f + k) (I0 46))), (oa (a 13) cI 8040 cy1)] H := ⟨hP, hD⟩
            refine lv_aload_n hx hb dX11_layBox_46 rfl (lv_at hl 1 rfl) ?_
            refine va_get (D := (dC, dI)) (ci := 9) (v := .ref (a 13)) (C := RX11) (T := TX11) (N := 55) hx hb hts inX11 hown hK hP 0 rfl rfl 13 (Nat.le_of_ble_eq_true rfl) (hts _ mw_1172) (fun _ h9 => h9) rfl dX11_layBox_47 ?_
            refine lv_bipush (v := 40) hx hb dX11_layBox_50 rfl ?_
            refine lv_iload_n hx hb dX11_layBox_52 rfl (lv_at hl 2 rfl) ?_
            refine lv_imul hx hb dX11_layBox_53 ?_
            refine zz_i (v := nI (40 * f)) (pk_mul 40 f) ?_
            refine lv_iload_n hx hb dX11_layBox_54 rfl (lv_at hl 0 rfl) ?_
            refine lv_iadd hx hb dX11_layBox_55 ?_
            refine zz_i (v := nI (40 * f + k)) (nI_add (40 * f) k) ?_
            refine lv_iload_n hx hb dX11_layBox_56 rfl (lv_at hl 0 rfl) ?_
            refine lv_iconst (v := 1) hx hb dX11_layBox_57 rfl ?_
            refine lv_icmp_le (tgt := 68) hx hb dX11_layBox_58 rfl (fun c_11 => ?_) (fun c_11 => ?_)
            · have c_11 : ((k : Nat) : Int) ≤ 1 := zc_le (nI_toInt b9_3) rfl c_11
              refine lv_aload_n hx hb dX11_layBox_68 rfl (lv_at hl 1 rfl) ?_
              refine va_get (D := (dC, dI)) (ci := 9) (v := .int (I0 45)) (C := RX11) (T := TX11) (N := 55) hx hb hts inX11 hown hK hP 0 rfl rfl 45 (Nat.le_of_ble_eq_true rfl) (hts _ mw_1204) (fun _ h9 => h9) rfl dX11_layBox_69 ?_
              refine z_iast hx hb hK hP hD hS 4 0 rfl rfl (e := 40 * f + k) (x := I0 45) rfl b9_10 (Nat.le_of_ble_eq_true rfl) dX11_layBox_72 (fun H locs hP hD hS => ?_)
              obtain ⟨hP, hD⟩ : zPD (dC, dI) classes A [(om k0 a I0 J0), (oa (a 1) cI 201 kd), (oa (a 11) cI 201 (upd mn f 4)), (oa (a 12) cI 8040 (upd cx1 (40 * f + k) (I0 46))), (oa (a 13) cI 8040 (upd cy1 (40 * f + k) (I0 45)))] H := ⟨hP, hD⟩
              refine lv_iinc (v := nI (k + 1)) (lv' := [(2, .int (nI (k + 1))), (0, .ref k0), (1, .int (nI f))]) hx hb dX11_layBox_73 hl (k := 0) rfl (nI_add k 1) (Nat.le_of_ble_eq_true rfl) rfl (fun ls hl => ?_)
              refine lv_goto (tgt := 9) hx hb dX11_layBox_76 rfl ?_
              exact ih_9 (k + 1) (upd cx1 (40 * f + k) (I0 46)) (upd cy1 (40 * f + k) (I0 45)) H locs ls (by first | with_reducible assumption | omega) (by first | with_reducible assumption | omega) (bxX_s hcx (by first | (exfalso; omega) | (rw [if_pos (by first | with_reducible assumption | omega)]) | (rw [if_neg (by first | with_reducible assumption | omega)]))) (bxY_s hcy (by first | (exfalso; omega) | (rw [if_pos (by first | with_reducible assumption | omega)]) | (rw [if_neg (by first | with_reducible assumption | omega)]))) hP hD hS (lv_sub hl [0, 1, 2] rfl)
            · have c_11 : 1 < ((k : Nat) : Int) := zc_nle (nI_toInt b9_3) rfl c_11
              refine lv_aload_n hx hb dX11_layBox_61 rfl (lv_at hl 1 rfl) ?_
              refine va_get (D := (dC, dI)) (ci := 9) (v := .int (I0 47)) (C := RX11) (T := TX11) (N := 55) hx hb hts inX11 hown hK hP 0 rfl rfl 47 (Nat.le_of_ble_eq_true rfl) (hts _ mw_1206) (fun _ h9 => h9) rfl dX11_layBox_62 ?_
              refine lv_goto (tgt := 72) hx hb dX11_layBox_65 rfl ?_
              refine z_iast hx hb hK hP hD hS 4 0 rfl rfl (e := 40 * f + k) (x := I0 47) rfl b9_10 (Nat.le_of_ble_eq_true rfl) dX11_layBox_72 (fun H locs hP hD hS => ?_)
              obtain ⟨hP, hD⟩ : zPD (dC, dI) classes A [(om k0 a I0 J0), (oa (a 1) cI 201 kd), (oa (a 11) cI 201 (upd mn f 4)), (oa (a 12) cI 8040 (upd cx1 (40 * f + k) (I0 46))), (oa (a 13) cI 8040 (upd cy1 (40 * f + k) (I0 47)))] H := ⟨hP, hD⟩
              refine lv_iinc (v := nI (k + 1)) (lv' := [(2, .int (nI (k + 1))), (0, .ref k0), (1, .int (nI f))]) hx hb dX11_layBox_73 hl (k := 0) rfl (nI_add k 1) (Nat.le_of_ble_eq_true rfl) rfl (fun ls hl => ?_)
              refine lv_goto (tgt := 9) hx hb dX11_layBox_76 rfl ?_
              exact ih_9 (k + 1) (upd cx1 (40 * f + k) (I0 46)) (upd cy1 (40 * f + k) (I0 47)) H locs ls (by first | with_reducible assumption | omega) (by first | with_reducible assumption | omega) (bxX_s hcx (by first | (exfalso; omega) | (rw [if_pos (by first | with_reducible assumption | omega)]) | (rw [if_neg (by first | with_reducible assumption | omega)]))) (bxY_s hcy (by first | (exfalso; omega) | (rw [if_pos (by first | with_reducible assumption | omega)]) | (rw [if_neg (by first | with_reducible assumption | omega)]))) hP hD hS (lv_sub hl [0, 1, 2] rfl)
  exact hl_9 _ 0 cx cy H locs ls (Nat.lt_succ_self _) (by first | with_reducible assumption | omega) (bxX_0 _ _ _ _) (bxY_0 _ _ _ _) hP hD hS (lv_sub hl [0, 1, 2] rfl)
end
section
set_option maxHeartbeats 4000000 in
set_option maxRecDepth 100000 in
theorem k_M_plain_y (l : Launch) (dC : Nat → ClassId) (dI : Nat → Nat → Nat) (cI cZ cF : ClassId) (sz : Nat) (k0 : Nat) (a : Nat → Nat) (I0 : Nat → Int32) (J0 : Nat → Int64) (f : Nat) (n : Nat) (L : Nat) (ft : Nat) (ln : Nat) (cl : Nat) (kb : Nat) (stp : Int32) (st : Nat → Int32) (tn : Nat → Int32) (kd : Nat → Int32) (mn : Nat → Int32) (cx : Nat → Int32) (cy : Nat → Int32) (S0 : Nat → Int32) (T0 : Nat → Int32) (P0 : Nat → Int32) (Q0 : Nat → Int32) (ox : Nat → Int32) (oy : Nat → Int32) (mt : Nat → Int32) (wi : Nat → Int32) (ins : Nat → Int32) (fl : Nat → Int32) (la : Nat → Int32) (lb : Nat → Int32) (lc : Nat → Int32) (ld : Nat → Int32) (hft : I0 0 = nI ft) (h200 : ft ≤ 200) (hf_f : f ≤ 200) (hm_f : mn f = nI n) (hn_f : 1 ≤ n ∧ n ≤ 40) (hp_f : pls n (cF40 cx f) (cF40 cy f)) (hL : L ≤ 2147483647) (hwf : ∀ q, lvF ft st tn q → wfM mn cx cy q) (hr3 : 5 ≤ (kd f).toInt → 3 ≤ n) (hlc : ln ≤ 64 * cl) (hcl1 : 1 ≤ cl) (hclm : cl ≤ 1000000) (hkb : pBest ft st tn kd mn cx cy f n L kb) : Met l yX11_plain (.code yX11_plain cX11_plain 8 (some .boolean) :: ws0) ({ frames := 7, cells := 4 * (dl cl ln - cl), slots := 512 * (dl cl ln - cl), locals := 182 } : Room) (va_Pc [.ref k0, .int (nI f), .long (jI ((L : Nat) : Int)), .int stp] (zPre (dC, dI) classes (zTy cI cZ cF) [(om k0 a (upd I0 26 (nI ln)) J0), (oa (a 5) cI 201 st), (oa (a 6) cZ 201 tn), (oa (a 1) cI 201 kd), (oa (a 11) cI 201 mn), (oa (a 12) cI 8040 cx), (oa (a 13) cI 8040 cy), (oa (a 32) cI 8 S0), (oa (a 40) cI 6 T0), (oa (a 29) cI 42 P0), (oa (a 30) cI 42 Q0), (oa (a 33) cI 42 ox), (oa (a 34) cI 42 oy), (oa (a 37) cZ 201 mt), (oa (a 38) cZ 201 wi), (oa (a 39) cZ 8040 ins), (oa (a 43) cZ 40 fl), (oa (a 22) cI (64 * cl) la), (oa (a 23) cI (64 * cl) lb), (oa (a 24) cI (64 * cl) lc), (oa (a 25) cI (64 * cl) ld)] sz zXN)) (zQ (some (.int 1)) (fun t => ∃ (z9 : Int32), ∃ (on1 : Int32), ∃ (ok1 : Int32), ∃ (S1 : Nat → Int32), ∃ (T1 : Nat → Int32), ∃ (P1 : Nat → Int32), ∃ (Q1 : Nat → Int32), ∃ (ox1 : Nat → Int32), ∃ (oy1 : Nat → Int32), ∃ (mt1 : Nat → Int32), ∃ (wi1 : Nat → Int32), ∃ (ins1 : Nat → Int32), ∃ (fl1 : Nat → Int32), ∃ (bl0 : Nat), ∃ (bl1 : Nat), ∃ (bl2 : Nat), ∃ (bl3 : Nat), ∃ (la1 : Nat → Int32), ∃ (lb1 : Nat → Int32), ∃ (lc1 : Nat → Int32), ∃ (ld1 : Nat → Int32), ((∀ j, j < ln → pl (lb j) ∧ pl (lc j)) → ∀ j, j < ln + 1 → pl (lb1 j) ∧ pl (lc1 j)) ∧ va_P (dC, dI) classes [(om k0 (va_up (va_up (va_up (va_up a 22 bl0) 23 bl1) 24 bl2) 25 bl3) (upd (upd (upd (upd I0 26 (nI (ln + 1))) 31 z9) 35 on1) 36 ok1) J0), (oa (a 5) cI 201 st), (oa (a 6) cZ 201 tn), (oa (a 1) cI 201 kd), (oa (a 11) cI 201 (upd mn f (nI (n - 1)))), (oa (a 12) cI 8040 (shp f kb (n - 1) cx)), (oa (a 13) cI 8040 (shp f kb (n - 1) cy)), (oa (a 32) cI 8 S1), (oa (a 40) cI 6 T1), (oa (a 29) cI 42 P1), (oa (a 30) cI 42 Q1), (oa (a 33) cI 42 ox1), (oa (a 34) cI 42 oy1), (oa (a 37) cZ 201 mt1), (oa (a 38) cZ 201 wi1), (oa (a 39) cZ 8040 ins1), (oa (a 43) cZ 40 fl1), (oa bl0 cI (64 * (dl cl ln)) la1), (oa bl1 cI (64 * (dl cl ln)) lb1), (oa bl2 cI (64 * (dl cl ln)) lc1), (oa bl3 cI (64 * (dl cl ln)) ld1)] t.heap ∧ va_D (va_A [(om k0 a (upd I0 26 (nI ln)) J0), (oa (a 5) cI 201 st), (oa (a 6) cZ 201 tn), (oa (a 1) cI 201 kd), (oa (a 11) cI 201 mn), (oa (a 12) cI 8040 cx), (oa (a 13) cI 8040 cy), (oa (a 32) cI 8 S0), (oa (a 40) cI 6 T0), (oa (a 29) cI 42 P0), (oa (a 30) cI 42 Q0), (oa (a 33) cI 42 ox), (oa (a 34) cI 42 oy), (oa (a 37) cZ 201 mt), (oa (a 38) cZ 201 wi), (oa (a 39) cZ 8040 ins), (oa (a 43) cZ 40 fl), (oa (a 22) cI (64 * cl) la), (oa (a 23) cI (64 * cl) lb), (oa (a 24) cI (64 * cl) lc), (oa (a 25) cI (64 * cl) ld)] sz) [(om k0 (va_up (va_up (va_up (va_up a 22 bl0) 23 bl1) 24 bl2) 25 bl3) (upd (upd (upd (upd I0 26 (nI (ln + 1))) 31 z9) 35 on1) 36 ok1) J0), (oa (a 5) cI 201 st), (oa (a 6) cZ 201 tn), (oa (a 1) cI 201 kd), (oa (a 11) cI 201 (upd mn f (nI (n - 1)))), (oa (a 12) cI 8040 (shp f kb (n - 1) cx)), (oa (a 13) cI 8040 (shp f kb (n - 1) cy)), (oa (a 32) cI 8 S1), (oa (a 40) cI 6 T1), (oa (a 29) cI 42 P1), (oa (a 30) cI 42 Q1), (oa (a 33) cI 42 ox1), (oa (a 34) cI 42 oy1), (oa (a 37) cZ 201 mt1), (oa (a 38) cZ 201 wi1), (oa (a 39) cZ 8040 ins1), (oa (a 43) cZ 40 fl1), (oa bl0 cI (64 * (dl cl ln)) la1), (oa bl1 cI (64 * (dl cl ln)) lb1), (oa bl2 cI (64 * (dl cl ln)) lc1), (oa bl3 cI (64 * (dl cl ln)) ld1)]) (va_A [(om k0 a (upd I0 26 (nI ln)) J0), (oa (a 5) cI 201 st), (oa (a 6) cZ 201 tn), (oa (a 1) cI 201 kd), (oa (a 11) cI 201 mn), (oa (a 12) cI 8040 cx), (oa (a 13) cI 8040 cy), (oa (a 32) cI 8 S0), (oa (a 40) cI 6 T0), (oa (a 29) cI 42 P0), (oa (a 30) cI 42 Q0), (oa (a 33) cI 42 ox), (oa (a 34) cI 42 oy), (oa (a 37) cZ 201 mt), (oa (a 38) cZ 201 wi), (oa (a 39) cZ 8040 ins), (oa (a 43) cZ 40 fl), (oa (a 22) cI (64 * cl) la), (oa (a 23) cI (64 * cl) lb), (oa (a 24) cI (64 * cl) lc), (oa (a 25) cI (64 * cl) ld)] sz)) (4 * (dl cl ln - cl)) (512 * (dl cl ln - cl)) (va_A [(om k0 a (upd I0 26 (nI ln)) J0), (oa (a 5) cI 201 st), (oa (a 6) cZ 201 tn), (oa (a 1) cI 201 kd), (oa (a 11) cI 201 mn), (oa (a 12) cI 8040 cx), (oa (a 13) cI 8040 cy), (oa (a 32) cI 8 S0), (oa (a 40) cI 6 T0), (oa (a 29) cI 42 P0), (oa (a 30) cI 42 Q0), (oa (a 33) cI 42 ox), (oa (a 34) cI 42 oy), (oa (a 37) cZ 201 mt), (oa (a 38) cZ 201 wi), (oa (a 39) cZ 8040 ins), (oa (a 43) cZ 40 fl), (oa (a 22) cI (64 * cl) la), (oa (a 23) cI (64 * cl) lb), (oa (a 24) cI (64 * cl) lc), (oa (a 25) cI (64 * cl) ld)] sz) := by
  refine Met.ofW (cc := cX11_plain) (maxL := 8) (ret := (some .boolean)) rfl rfl ?_
  intro p e s m args below meth c s₁ B hml hv
  obtain ⟨rfl, hsz, hP, hK, hD0, hXN⟩ := hv
  have hx := B.exec
  have hb := B.bytes
  have hr := B.returns
  have hts0 := atoms_spec (ws := .code yX11_plain cX11_plain 8 (some .boolean) :: ws0) B.pre
  have hts : ∀ w9 ∈ ws0, w9.before ([.ref k0, .int (nI f), .long (jI ((L : Nat) : Int)), .int stp] : List Value).toArray s = true := fun w9 h => hts0 w9 (List.mem_cons_of_mem _ h)
  have hown : s.vm.findClass "ScaleShopModel" = some m.cls := findClass_of_methodNamed B.named
  have hlocks := B.notSynchronized
  subst hsz
  have hD := hD0.self (sz := s.heap.size)
  clear hD0
  generalize hAe : va_A [(om k0 a (upd I0 26 (nI ln)) J0), (oa (a 5) cI 201 st), (oa (a 6) cZ 201 tn), (oa (a 1) cI 201 kd), (oa (a 11) cI 201 mn), (oa (a 12) cI 8040 cx), (oa (a 13) cI 8040 cy), (oa (a 32) cI 8 S0), (oa (a 40) cI 6 T0), (oa (a 29) cI 42 P0), (oa (a 30) cI 42 Q0), (oa (a 33) cI 42 ox), (oa (a 34) cI 42 oy), (oa (a 37) cZ 201 mt), (oa (a 38) cZ 201 wi), (oa (a 39) cZ 8040 ins), (oa (a 43) cZ 40 fl), (oa (a 22) cI (64 * cl) la), (oa (a 23) cI (64 * cl) lb), (oa (a 24) cI (64 * cl) lc), (oa (a 25) cI (64 * cl) ld)] s.heap.size = A at hD ⊢
  have hA : ∀ q : Nat, s.heap.size ≤ q → A q := fun q h => by rw [← hAe]; exact Or.inr h
  clear hAe
  have hS : va_S A s.heap s.heap [] := va_S.rf
  have hP : va_P (dC, dI) classes [(om k0 a (upd I0 26 (nI ln)) J0), (oa (a 5) cI 201 st), (oa (a 6) cZ 201 tn), (oa (a 1) cI 201 kd), (oa (a 11) cI 201 mn), (oa (a 12) cI 8040 cx), (oa (a 13) cI 8040 cy), (oa (a 32) cI 8 S0), (oa (a 40) cI 6 T0), (oa (a 29) cI 42 P0), (oa (a 30) cI 42 Q0), (oa (a 33) cI 42 ox), (oa (a 34) cI 42 oy), (oa (a 37) cZ 201 mt), (oa (a 38) cZ 201 wi), (oa (a 39) cZ 8040 ins), (oa (a 43) cZ 40 fl), (oa (a 22) cI (64 * cl) la), (oa (a 23) cI (64 * cl) lb), (oa (a 24) cI (64 * cl) lc), (oa (a 25) cI (64 * cl) ld)] s.heap := hP
  obtain ⟨Q9, hQ9⟩ : ∃ Q9 : State → Prop, Q9 = MQ below (zQ (some (.int 1)) (fun t => ∃ (z9 : Int32), ∃ (on1 : Int32), ∃ (ok1 : Int32), ∃ (S1 : Nat → Int32), ∃ (T1 : Nat → Int32), ∃ (P1 : Nat → Int32), ∃ (Q1 : Nat → Int32), ∃ (ox1 : Nat → Int32), ∃ (oy1 : Nat → Int32), ∃ (mt1 : Nat → Int32), ∃ (wi1 : Nat → Int32), ∃ (ins1 : Nat → Int32), ∃ (fl1 : Nat → Int32), ∃ (bl0 : Nat), ∃ (bl1 : Nat), ∃ (bl2 : Nat), ∃ (bl3 : Nat), ∃ (la1 : Nat → Int32), ∃ (lb1 : Nat → Int32), ∃ (lc1 : Nat → Int32), ∃ (ld1 : Nat → Int32), ((∀ j, j < ln → pl (lb j) ∧ pl (lc j)) → ∀ j, j < ln + 1 → pl (lb1 j) ∧ pl (lc1 j)) ∧ va_P (dC, dI) classes [(om k0 (va_up (va_up (va_up (va_up a 22 bl0) 23 bl1) 24 bl2) 25 bl3) (upd (upd (upd (upd I0 26 (nI (ln + 1))) 31 z9) 35 on1) 36 ok1) J0), (oa (a 5) cI 201 st), (oa (a 6) cZ 201 tn), (oa (a 1) cI 201 kd), (oa (a 11) cI 201 (upd mn f (nI (n - 1)))), (oa (a 12) cI 8040 (shp f kb (n - 1) cx)), (oa (a 13) cI 8040 (shp f kb (n - 1) cy)), (oa (a 32) cI 8 S1), (oa (a 40) cI 6 T1), (oa (a 29) cI 42 P1), (oa (a 30) cI 42 Q1), (oa (a 33) cI 42 ox1), (oa (a 34) cI 42 oy1), (oa (a 37) cZ 201 mt1), (oa (a 38) cZ 201 wi1), (oa (a 39) cZ 8040 ins1), (oa (a 43) cZ 40 fl1), (oa bl0 cI (64 * (dl cl ln)) la1), (oa bl1 cI (64 * (dl cl ln)) lb1), (oa bl2 cI (64 * (dl cl ln)) lc1), (oa bl3 cI (64 * (dl cl ln)) ld1)] t.heap ∧ va_D A [(om k0 (va_up (va_up (va_up (va_up a 22 bl0) 23 bl1) 24 bl2) 25 bl3) (upd (upd (upd (upd I0 26 (nI (ln + 1))) 31 z9) 35 on1) 36 ok1) J0), (oa (a 5) cI 201 st), (oa (a 6) cZ 201 tn), (oa (a 1) cI 201 kd), (oa (a 11) cI 201 (upd mn f (nI (n - 1)))), (oa (a 12) cI 8040 (shp f kb (n - 1) cx)), (oa (a 13) cI 8040 (shp f kb (n - 1) cy)), (oa (a 32) cI 8 S1), (oa (a 40) cI 6 T1), (oa (a 29) cI 42 P1), (oa (a 30) cI 42 Q1), (oa (a 33) cI 42 ox1), (oa (a 34) cI 42 oy1), (oa (a 37) cZ 201 mt1), (oa (a 38) cZ 201 wi1), (oa (a 39) cZ 8040 ins1), (oa (a 43) cZ 40 fl1), (oa bl0 cI (64 * (dl cl ln)) la1), (oa bl1 cI (64 * (dl cl ln)) lb1), (oa bl2 cI (64 * (dl cl ln)) lc1), (oa bl3 cI (64 * (dl cl ln)) ld1)]) A) ([.ref k0, .int (nI f), .long (jI ((L : Nat) : Int)), .int stp] : List Value).toArray s (4 * (dl cl ln - cl)) (512 * (dl cl ln - cl)) A := ⟨_, rfl⟩
  rw [← hQ9]
  have hl := lv_entry ([.ref k0, .int (nI f), .long (jI ((L : Nat) : Int)), .int stp]) (n := 8) (Nat.le_of_ble_eq_true rfl)
  rw [lg_entry_eq]
  generalize (lg_sl ([.ref k0, .int (nI f), .long (jI ((L : Nat) : Int)), .int stp]) ++ List.replicate (8 - (lg_sl ([.ref k0, .int (nI f), .long (jI ((L : Nat) : Int)), .int stp])).length) Slot.unset).toArray = ls at hl ⊢
  have hl : lv_has ls 8 [(0, .ref k0), (1, .int (nI f)), (2, .long (jI ((L : Nat) : Int))), (4, .int stp)] := hl
  have hdl : cl ≤ dl cl ln := (by unfold dl; split <;> omega)
  refine lv_iconst (v := 0) hx hb dX11_plain_0 rfl ?_
  refine lv_istore (lv' := [(5, .int 0), (0, .ref k0), (1, .int (nI f)), (2, .long (jI ((L : Nat) : Int))), (4, .int stp)]) hx hb dX11_plain_1 hl (Nat.le_of_ble_eq_true rfl) rfl (fun ls hl => ?_)
  have hl_3 : ∀ (n9 : Nat) (k : Nat) (S1 : Nat → Int32) (fl1 : Nat → Int32) (H : Heap) (locs : List Loc) (ls : Array Slot), n - k < n9 → (k ≤ n) → (∀ j, j < k → fl1 j = pI (¬ cnd ft st tn kd mn cx cy f n L j)) → va_P (dC, dI) classes [(om k0 a (upd I0 26 (nI ln)) J0), (oa (a 5) cI 201 st), (oa (a 6) cZ 201 tn), (oa (a 1) cI 201 kd), (oa (a 11) cI 201 mn), (oa (a 12) cI 8040 cx), (oa (a 13) cI 8040 cy), (oa (a 32) cI 8 S1), (oa (a 40) cI 6 T0), (oa (a 29) cI 42 P0), (oa (a 30) cI 42 Q0), (oa (a 33) cI 42 ox), (oa (a 34) cI 42 oy), (oa (a 37) cZ 201 mt), (oa (a 38) cZ 201 wi), (oa (a 39) cZ 8040 ins), (oa (a 43) cZ 40 fl1), (oa (a 22) cI (64 * cl) la), (oa (a 23) cI (64 * cl) lb), (oa (a 24) cI (64 * cl) lc), (oa (a 25) cI (64 * cl) ld)] H → va_D A [(om k0 a (upd I0 26 (nI ln)) J0), (oa (a 5) cI 201 st), (oa (a 6) cZ 201 tn), (oa (a 1) cI 201 kd), (oa (a 11) cI 201 mn), (oa (a 12) cI 8040 cx), (oa (a 13) cI 8040 cy), (oa (a 32) cI 8 S1), (oa (a 40) cI 6 T0), (oa (a 29) cI 42 P0), (oa (a 30) cI 42 Q0), (oa (a 33) cI 42 ox), (oa (a 34) cI 42 oy), (oa (a 37) cZ 201 mt), (oa (a 38) cZ 201 wi), (oa (a 39) cZ 8040 ins), (oa (a 43) cZ 40 fl1), (oa (a 22) cI (64 * cl) la), (oa (a 23) cI (64 * cl) lb), (oa (a 24) cI (64 * cl) lc), (oa (a 25) cI (64 * cl) ld)] → va_S A s.heap H locs → lv_has ls 8 [(5, .int (nI k)), (0, .ref k0), (1, .int (nI f)), (2, .long (jI ((L : Nat) : Int))), (4, .int stp)] → W p l e ((headSpec (.code yX11_plain cX11_plain 8 (some .boolean) :: ws0) ({ frames := 7, cells := 4 * (dl cl ln - cl), slots := 512 * (dl cl ln - cl), locals := 182 } : Room)).room) s m ([.ref k0, .int (nI f), .long (jI ((L : Nat) : Int)), .int stp] : List Value).toArray below meth c H locs 0 0 Q9 (F0 m 3 ls []) := by
    intro n9
    induction n9 with
    | zero => intro k S1 fl1 H locs ls hm; exact absurd hm (Nat.not_lt_zero _)
    | succ n9 ih_3 =>
      intro k S1 fl1 H locs ls hm hk hfl hP hD hS hl
      refine lv_iload hx hb dX11_plain_3 (lv_at hl 0 rfl) ?_
      refine lv_aload_n hx hb dX11_plain_5 rfl (lv_at hl 1 rfl) ?_
      refine va_get (D := (dC, dI)) (ci := 9) (v := .ref (a 11)) (C := RX11) (T := TX11) (N := 55) hx hb hts inX11 hown hK hP 0 rfl rfl 11 (Nat.le_of_ble_eq_true rfl) (hts _ mw_1170) (fun _ h9 => h9) rfl dX11_plain_6 ?_
      refine lv_iload_n hx hb dX11_plain_9 rfl (lv_at hl 2 rfl) ?_
      have b9_1 : f < 201 := by omega
      refine z_iald hx hb hK hP 4 0 rfl rfl (e := f) rfl b9_1 (Nat.le_of_ble_eq_true rfl) dX11_plain_10 ?_
      refine zz_i (v := nI n) (hm_f) ?_
      have b9_3 : k < 2147483648 := by omega
      have b9_4 : n < 2147483648 := by omega
      refine lv_icmp_ge (tgt := 54) hx hb dX11_plain_11 rfl (fun c_2 => ?_) (fun c_2 => ?_)
      · have c_2 : ((n : Nat) : Int) ≤ ((k : Nat) : Int) := zc_le (nI_toInt b9_4) (nI_toInt b9_3) c_2
        have hl_54 : ∀ (n9 : Nat) (FS : Nat → Prop) (z9 : Int32) (on1 : Int32) (ok1 : Int32) (S1 : Nat → Int32) (T1 : Nat → Int32) (P1 : Nat → Int32) (Q1 : Nat → Int32) (ox1 : Nat → Int32) (oy1 : Nat → Int32) (mt1 : Nat → Int32) (wi1 : Nat → Int32) (ins1 : Nat → Int32) (fl1 : Nat → Int32) (H : Heap) (locs : List Loc) (ls : Array Slot), cntP (fun j => ¬ FS j) n < n9 → (∀ j, j < n → fl1 j = pI (FS j)) → (∀ j, j < n → ¬ FS j → cnd ft st tn kd mn cx cy f n L j) → (∀ j, j < n → FS j → cnd ft st tn kd mn cx cy f n L j → ¬ lwP ft st tn kd mn cx cy f n j) → va_P (dC, dI) classes [(om k0 a (upd (upd (upd (upd I0 26 (nI ln)) 31 z9) 35 on1) 36 ok1) J0), (oa (a 5) cI 201 st), (oa (a 6) cZ 201 tn), (oa (a 1) cI 201 kd), (oa (a 11) cI 201 mn), (oa (a 12) cI 8040 cx), (oa (a 13) cI 8040 cy), (oa (a 32) cI 8 S1), (oa (a 40) cI 6 T1), (oa (a 29) cI 42 P1), (oa (a 30) cI 42 Q1), (oa (a 33) cI 42 ox1), (oa (a 34) cI 42 oy1), (oa (a 37) cZ 201 mt1), (oa (a 38) cZ 201 wi1), (oa (a 39) cZ 8040 ins1), (oa (a 43) cZ 40 fl1), (oa (a 22) cI (64 * cl) la), (oa (a 23) cI (64 * cl) lb), (oa (a 24) cI (64 * cl) lc), (oa (a 25) cI (64 * cl) ld)] H → va_D A [(om k0 a (upd (upd (upd (upd I0 26 (nI ln)) 31 z9) 35 on1) 36 ok1) J0), (oa (a 5) cI 201 st), (oa (a 6) cZ 201 tn), (oa (a 1) cI 201 kd), (oa (a 11) cI 201 mn), (oa (a 12) cI 8040 cx), (oa (a 13) cI 8040 cy), (oa (a 32) cI 8 S1), (oa (a 40) cI 6 T1), (oa (a 29) cI 42 P1), (oa (a 30) cI 42 Q1), (oa (a 33) cI 42 ox1), (oa (a 34) cI 42 oy1), (oa (a 37) cZ 201 mt1), (oa (a 38) cZ 201 wi1), (oa (a 39) cZ 8040 ins1), (oa (a 43) cZ 40 fl1), (oa (a 22) cI (64 * cl) la), (oa (a 23) cI (64 * cl) lb), (oa (a 24) cI (64 * cl) lc), (oa (a 25) cI (64 * cl) ld)] → va_S A s.heap H locs → lv_has ls 8 [(0, .ref k0), (1, .int (nI f)), (2, .long (jI ((L : Nat) : Int))), (4, .int stp)] → W p l e ((headSpec (.code yX11_plain cX11_plain 8 (some .boolean) :: ws0) ({ frames := 7, cells := 4 * (dl cl ln - cl), slots := 512 * (dl cl ln - cl), locals := 182 } : Room)).room) s m ([.ref k0, .int (nI f), .long (jI ((L : Nat) : Int)), .int stp] : List Value).toArray below meth c H locs 0 0 Q9 (F0 m 54 ls []) := by
          intro n9
          induction n9 with
          | zero => intro FS z9 on1 ok1 S1 T1 P1 Q1 ox1 oy1 mt1 wi1 ins1 fl1 H locs ls hm; exact absurd hm (Nat.not_lt_zero _)
          | succ n9 ih_54 =>
            intro FS z9 on1 ok1 S1 T1 P1 Q1 ox1 oy1 mt1 wi1 ins1 fl1 H locs ls hm hfs hfc hfd hP hD hS hl
            have hm54 := hm
            refine lv_iconst (v := (-1)) hx hb dX11_plain_54 rfl ?_
            refine lv_istore (lv' := [(5, .int (-1)), (0, .ref k0), (1, .int (nI f)), (2, .long (jI ((L : Nat) : Int))), (4, .int stp)]) hx hb dX11_plain_55 hl (Nat.le_of_ble_eq_true rfl) rfl (fun ls hl => ?_)
            refine lv_iconst (v := 0) hx hb dX11_plain_57 rfl ?_
            refine lv_istore (lv' := [(6, .int 0), (5, .int (-1)), (0, .ref k0), (1, .int (nI f)), (2, .long (jI ((L : Nat) : Int))), (4, .int stp)]) hx hb dX11_plain_58 hl (Nat.le_of_ble_eq_true rfl) rfl (fun ls hl => ?_)
            have hl_60 : ∀ (n9 : Nat) (k : Nat) (zb : Int32) (H : Heap) (locs : List Loc) (ls : Array Slot), n - k < n9 → (k ≤ n) → (bstS (trF cx cy f n) FS k zb) → va_P (dC, dI) classes [(om k0 a (upd (upd (upd (upd I0 26 (nI ln)) 31 z9) 35 on1) 36 ok1) J0), (oa (a 5) cI 201 st), (oa (a 6) cZ 201 tn), (oa (a 1) cI 201 kd), (oa (a 11) cI 201 mn), (oa (a 12) cI 8040 cx), (oa (a 13) cI 8040 cy), (oa (a 32) cI 8 S1), (oa (a 40) cI 6 T1), (oa (a 29) cI 42 P1), (oa (a 30) cI 42 Q1), (oa (a 33) cI 42 ox1), (oa (a 34) cI 42 oy1), (oa (a 37) cZ 201 mt1), (oa (a 38) cZ 201 wi1), (oa (a 39) cZ 8040 ins1), (oa (a 43) cZ 40 fl1), (oa (a 22) cI (64 * cl) la), (oa (a 23) cI (64 * cl) lb), (oa (a 24) cI (64 * cl) lc), (oa (a 25) cI (64 * cl) ld)] H → va_D A [(om k0 a (upd (upd (upd (upd I0 26 (nI ln)) 31 z9) 35 on1) 36 ok1) J0), (oa (a 5) cI 201 st), (oa (a 6) cZ 201 tn), (oa (a 1) cI 201 kd), (oa (a 11) cI 201 mn), (oa (a 12) cI 8040 cx), (oa (a 13) cI 8040 cy), (oa (a 32) cI 8 S1), (oa (a 40) cI 6 T1), (oa (a 29) cI 42 P1), (oa (a 30) cI 42 Q1), (oa (a 33) cI 42 ox1), (oa (a 34) cI 42 oy1), (oa (a 37) cZ 201 mt1), (oa (a 38) cZ 201 wi1), (oa (a 39) cZ 8040 ins1), (oa (a 43) cZ 40 fl1), (oa (a 22) cI (64 * cl) la), (oa (a 23) cI (64 * cl) lb), (oa (a 24) cI (64 * cl) lc), (oa (a 25) cI (64 * cl) ld)] → va_S A s.heap H locs → lv_has ls 8 [(6, .int (nI k)), (5, .int zb), (0, .ref k0), (1, .int (nI f)), (2, .long (jI ((L : Nat) : Int))), (4, .int stp)] → W p l e ((headSpec (.code yX11_plain cX11_plain 8 (some .boolean) :: ws0) ({ frames := 7, cells := 4 * (dl cl ln - cl), slots := 512 * (dl cl ln - cl), locals := 182 } : Room)).room) s m ([.ref k0, .int (nI f), .long (jI ((L : Nat) : Int)), .int stp] : List Value).toArray below meth c H locs 0 0 Q9 (F0 m 60 ls []) := by
              intro n9
              induction n9 with
              | zero => intro k zb H locs ls hm; exact absurd hm (Nat.not_lt_zero _)
              | succ n9 ih_60 =>
                intro k zb H locs ls hm hk hat hP hD hS hl
                refine lv_iload hx hb dX11_plain_60 (lv_at hl 0 rfl) ?_
                refine lv_aload_n hx hb dX11_plain_62 rfl (lv_at hl 2 rfl) ?_
                refine va_get (D := (dC, dI)) (ci := 9) (v := .ref (a 11)) (C := RX11) (T := TX11) (N := 55) hx hb hts inX11 hown hK hP 0 rfl rfl 11 (Nat.le_of_ble_eq_true rfl) (hts _ mw_1170) (fun _ h9 => h9) rfl dX11_plain_63 ?_
                refine lv_iload_n hx hb dX11_plain_66 rfl (lv_at hl 3 rfl) ?_
                refine z_iald hx hb hK hP 4 0 rfl rfl (e := f) rfl b9_1 (Nat.le_of_ble_eq_true rfl) dX11_plain_67 ?_
                refine zz_i (v := nI n) (hm_f) ?_
                have b9_6 : k < 2147483648 := by omega
                refine lv_icmp_ge (tgt := 115) hx hb dX11_plain_68 rfl (fun c_5 => ?_) (fun c_5 => ?_)
                · have c_5 : ((n : Nat) : Int) ≤ ((k : Nat) : Int) := zc_le (nI_toInt b9_4) (nI_toInt b9_6) c_5
                  refine lv_iload hx hb dX11_plain_115 (lv_at hl 1 rfl) ?_
                  refine lv_iconst (v := (-1)) hx hb dX11_plain_117 rfl ?_
                  refine lv_icmp_ne (tgt := 123) hx hb dX11_plain_118 rfl (fun c_7 => ?_) (fun c_7 => ?_)
                  · have c_7 : ¬ zb.toInt = (-1) := zc_ne rfl rfl c_7
                    have hkn : k = n := (by omega)
                    rw [hkn] at hat
                    obtain ⟨b9, hz9, hbk, hbF, hbm⟩ := bst_get hat (by omega)
                    have hcb := hfc b9 hbk hbF
                    refine lv_aload_n hx hb dX11_plain_123 rfl (lv_at hl 2 rfl) ?_
                    refine va_get (D := (dC, dI)) (ci := 9) (v := .ref (a 12)) (C := RX11) (T := TX11) (N := 55) hx hb hts inX11 hown hK hP 0 rfl rfl 12 (Nat.le_of_ble_eq_true rfl) (hts _ mw_1171) (fun _ h9 => h9) rfl dX11_plain_124 ?_
                    refine lv_bipush (v := 40) hx hb dX11_plain_127 rfl ?_
                    refine lv_iload_n hx hb dX11_plain_129 rfl (lv_at hl 3 rfl) ?_
                    refine lv_imul hx hb dX11_plain_130 ?_
                    refine zz_i (v := nI (40 * f)) (pk_mul 40 f) ?_
                    refine lv_iload hx hb dX11_plain_131 (lv_at hl 1 rfl) ?_
                    refine zz_i (v := nI b9) (hz9) ?_
                    refine lv_iadd hx hb dX11_plain_133 ?_
                    refine zz_i (v := nI (40 * f + b9)) (nI_add (40 * f) b9) ?_
                    have b9_8 : 40 * f + b9 < 8040 := by omega
                    refine z_iald hx hb hK hP 5 0 rfl rfl (e := 40 * f + b9) rfl b9_8 (Nat.le_of_ble_eq_true rfl) dX11_plain_134 ?_
                    refine lv_istore (lv' := [(6, .int (cx (40 * f + b9))), (5, .int zb), (0, .ref k0), (1, .int (nI f)), (2, .long (jI ((L : Nat) : Int))), (4, .int stp)]) hx hb dX11_plain_135 hl (Nat.le_of_ble_eq_true rfl) rfl (fun ls hl => ?_)
                    refine lv_aload_n hx hb dX11_plain_137 rfl (lv_at hl 2 rfl) ?_
                    refine va_get (D := (dC, dI)) (ci := 9) (v := .ref (a 13)) (C := RX11) (T := TX11) (N := 55) hx hb hts inX11 hown hK hP 0 rfl rfl 13 (Nat.le_of_ble_eq_true rfl) (hts _ mw_1172) (fun _ h9 => h9) rfl dX11_plain_138 ?_
                    refine lv_bipush (v := 40) hx hb dX11_plain_141 rfl ?_
                    refine lv_iload_n hx hb dX11_plain_143 rfl (lv_at hl 3 rfl) ?_
                    refine lv_imul hx hb dX11_plain_144 ?_
                    refine zz_i (v := nI (40 * f)) (pk_mul 40 f) ?_
                    refine lv_iload hx hb dX11_plain_145 (lv_at hl 1 rfl) ?_
                    refine zz_i (v := nI b9) (hz9) ?_
                    refine lv_iadd hx hb dX11_plain_147 ?_
                    refine zz_i (v := nI (40 * f + b9)) (nI_add (40 * f) b9) ?_
                    refine z_iald hx hb hK hP 6 0 rfl rfl (e := 40 * f + b9) rfl b9_8 (Nat.le_of_ble_eq_true rfl) dX11_plain_148 ?_
                    refine lv_istore (lv' := [(7, .int (cy (40 * f + b9))), (6, .int (cx (40 * f + b9))), (5, .int zb), (0, .ref k0), (1, .int (nI f)), (2, .long (jI ((L : Nat) : Int))), (4, .int stp)]) hx hb dX11_plain_149 hl (Nat.le_of_ble_eq_true rfl) rfl (fun ls hl => ?_)
                    refine lv_aload_n hx hb dX11_plain_151 rfl (lv_at hl 3 rfl) ?_
                    refine lv_iload_n hx hb dX11_plain_152 rfl (lv_at hl 4 rfl) ?_
                    refine lv_iload hx hb dX11_plain_153 (lv_at hl 2 rfl) ?_
                    refine zz_i (v := nI b9) (hz9) ?_
                    obtain ⟨hPc, hDc, hFc⟩ := zc_sub (wc := [(om k0 a (upd (upd (upd (upd I0 26 (nI ln)) 31 z9) 35 on1) 36 ok1) J0), (oa (a 5) cI 201 st), (oa (a 6) cZ 201 tn), (oa (a 1) cI 201 kd), (oa (a 11) cI 201 mn), (oa (a 12) cI 8040 cx), (oa (a 13) cI 8040 cy), (oa (a 32) cI 8 S1), (oa (a 40) cI 6 T1), (oa (a 29) cI 42 P1), (oa (a 30) cI 42 Q1), (oa (a 33) cI 42 ox1), (oa (a 34) cI 42 oy1), (oa (a 37) cZ 201 mt1), (oa (a 38) cZ 201 wi1), (oa (a 39) cZ 8040 ins1)]) hP hD hS hA [0, 1, 2, 3, 4, 5, 6, 7, 8, 9, 10, 11, 12, 13, 14, 15] rfl rfl
                    refine zcall (st1 := [.int (pI (lwP ft st tn kd mn cx cy f n b9))]) (va_runV (As := [.int (nI f), .int (nI b9)]) (rest := []) ⟨hx, hb, hml, hown, hts⟩ (k_M_goes l dC dI cI cZ cF H.size k0 a (upd (upd (upd (upd I0 26 (nI ln)) 31 z9) 35 on1) 36 ok1) J0 f n b9 ft st tn kd mn cx cy S1 T1 P1 Q1 ox1 oy1 mt1 wi1 ins1 (by first | with_reducible assumption | assumption) (by first | with_reducible assumption | omega) (by first | with_reducible assumption | omega) (by first | with_reducible assumption | assumption) (by first | with_reducible assumption | omega) (by first | with_reducible assumption | assumption) (hbk) (mGo_2 hcb.1 hbk hr3) (hwf)) (csV_200 hts rfl rfl ⟨Nat.le_of_ble_eq_true rfl, Nat.le_of_ble_eq_true rfl⟩) (zPV2 (q0 := 0) (ci := 9) hPc hDc hK hXN rfl rfl) rfl rfl hl.1 rfl (lv_room (Nat.le_of_ble_eq_true rfl)) dX11_plain_155 ⟨show 0 ≤ 4 * (dl cl ln - cl) by omega, show 0 ≤ 512 * (dl cl ln - cl) by omega⟩) hS hFc hFc rfl (fun t H locs ht hB hk1 hS => ?_)
                    obtain ⟨z2, mn2, cx2, cy2, S3, T3, P3, Q3, ox3, oy3, mt3, wi3, ins3, hyes, hnot, hP1, hD1⟩ := hB
                    rw [ht] at hP1
                    obtain ⟨hP, hD⟩ := zk (W2 := [(om k0 a (upd (upd (upd (upd I0 26 (nI ln)) 31 z2) 35 (nI n)) 36 (kd f)) J0), (oa (a 5) cI 201 st), (oa (a 6) cZ 201 tn), (oa (a 1) cI 201 kd), (oa (a 11) cI 201 mn2), (oa (a 12) cI 8040 cx2), (oa (a 13) cI 8040 cy2), (oa (a 32) cI 8 S3), (oa (a 40) cI 6 T3), (oa (a 29) cI 42 P3), (oa (a 30) cI 42 Q3), (oa (a 33) cI 42 ox3), (oa (a 34) cI 42 oy3), (oa (a 37) cZ 201 mt3), (oa (a 38) cZ 201 wi3), (oa (a 39) cZ 8040 ins3), (oa (a 43) cZ 40 fl1), (oa (a 22) cI (64 * cl) la), (oa (a 23) cI (64 * cl) lb), (oa (a 24) cI (64 * cl) lc), (oa (a 25) cI (64 * cl) ld)]) hP hD [0, 1, 2, 3, 4, 5, 6, 7, 8, 9, 10, 11, 12, 13, 14, 15] [16, 17, 18, 19, 20] [16, 17, 18, 19, 20] [0, 1, 2, 3, 4, 5, 6, 7, 8, 9, 10, 11, 12, 13, 14, 15] [5, 6, 7, 8, 9, 10, 11, 12, 13, 14, 15, 16, 17, 18, 19, 20, 0, 1, 2, 3, 4] 21 rfl rfl rfl rfl rfl rfl rfl rfl rfl hk1 hFc hP1 hD1
                    clear hk1 hPc hDc hFc hP1 hD1 ht
                    refine lv_if_eq (tgt := 174) hx hb dX11_plain_158 rfl (fun c_9 => ?_) (fun c_9 => ?_)
                    · have c_9 : ¬ (lwP ft st tn kd mn cx cy f n b9) := zp_0 c_9
                      have hno9 := hnot (by first | with_reducible assumption | assumption)
                      rw [hno9.1, hno9.2.1, hno9.2.2] at hP hD
                      refine lv_aload_n hx hb dX11_plain_174 rfl (lv_at hl 3 rfl) ?_
                      refine va_get (D := (dC, dI)) (ci := 9) (v := .ref (a 43)) (C := RX11) (T := TX11) (N := 55) hx hb hts inX11 hown hK hP 0 rfl rfl 43 (Nat.le_of_ble_eq_true rfl) (hts _ mw_1202) (fun _ h9 => h9) rfl dX11_plain_175 ?_
                      refine lv_iload hx hb dX11_plain_178 (lv_at hl 2 rfl) ?_
                      refine zz_i (v := nI b9) (hz9) ?_
                      refine lv_iconst (v := 1) hx hb dX11_plain_180 rfl ?_
                      have b9_10 : b9 < 40 := by omega
                      refine z_zast hx hb hK hP hD hS 16 1 rfl rfl (e := b9) (x := 1) rfl b9_10 (Nat.le_of_ble_eq_true rfl) (by decide) dX11_plain_181 (fun H locs hP hD hS => ?_)
                      obtain ⟨hP, hD⟩ : zPD (dC, dI) classes A [(om k0 a (upd (upd (upd (upd I0 26 (nI ln)) 31 z2) 35 (nI n)) 36 (kd f)) J0), (oa (a 5) cI 201 st), (oa (a 6) cZ 201 tn), (oa (a 1) cI 201 kd), (oa (a 11) cI 201 mn), (oa (a 12) cI 8040 cx), (oa (a 13) cI 8040 cy), (oa (a 32) cI 8 S3), (oa (a 40) cI 6 T3), (oa (a 29) cI 42 P3), (oa (a 30) cI 42 Q3), (oa (a 33) cI 42 ox3), (oa (a 34) cI 42 oy3), (oa (a 37) cZ 201 mt3), (oa (a 38) cZ 201 wi3), (oa (a 39) cZ 8040 ins3), (oa (a 43) cZ 40 (upd fl1 b9 1)), (oa (a 22) cI (64 * cl) la), (oa (a 23) cI (64 * cl) lb), (oa (a 24) cI (64 * cl) lc), (oa (a 25) cI (64 * cl) ld)] H := ⟨hP, hD⟩
                      refine lv_goto (tgt := 54) hx hb dX11_plain_182 rfl ?_
                      exact ih_54 (fun j => FS j ∨ j = b9) z2 (nI n) (kd f) S3 T3 P3 Q3 ox3 oy3 mt3 wi3 ins3 (upd fl1 b9 1) H locs ls (Nat.lt_of_lt_of_le (cntP_lt (P := fun j => ¬ FS j) (Q := fun j => ¬ (FS j ∨ j = b9)) (i := b9) (fun j h h2 => h (Or.inl h2)) hbk hbF (fun h => h (Or.inr rfl))) (Nat.le_of_lt_succ hm54)) (by intro j hj; unfold upd; by_cases h : j = b9; rw [if_pos h]; exact (zp_t (Or.inr h)).symm; rw [if_neg h, hfs j hj]; exact zp_iff ⟨Or.inl, fun h2 => h2.resolve_right h⟩) (fun j hj h => hfc j hj (fun h2 => h (Or.inl h2))) (fun j hj h h2 => h.elim (fun h3 => hfd j hj h3 h2) (fun h3 => by rw [h3]; assumption)) hP hD hS (lv_sub hl [3, 4, 5, 6] rfl)
                    · have c_9 : lwP ft st tn kd mn cx cy f n b9 := zp_1 c_9
                      refine lv_aload_n hx hb dX11_plain_161 rfl (lv_at hl 3 rfl) ?_
                      refine lv_iload_n hx hb dX11_plain_162 rfl (lv_at hl 4 rfl) ?_
                      refine lv_iload hx hb dX11_plain_163 (lv_at hl 1 rfl) ?_
                      refine lv_iload hx hb dX11_plain_165 (lv_at hl 0 rfl) ?_
                      refine lv_iload hx hb dX11_plain_167 (lv_at hl 6 rfl) ?_
                      obtain ⟨hPc, hDc, hFc⟩ := zc_sub (wc := [(om k0 a (upd (upd (upd (upd I0 26 (nI ln)) 31 z2) 35 (nI n)) 36 (kd f)) J0), (oa (a 22) cI (64 * cl) la), (oa (a 23) cI (64 * cl) lb), (oa (a 24) cI (64 * cl) lc), (oa (a 25) cI (64 * cl) ld)]) hP hD hS hA [0, 17, 18, 19, 20] rfl rfl
                      refine zcall (st1 := []) (va_runV (As := [.int (nI f), .int (cx (40 * f + b9)), .int (cy (40 * f + b9)), .int stp]) (rest := []) ⟨hx, hb, hml, hown, hts⟩ (k_M_lose l dC dI cI cZ cF H.size k0 a (upd (upd (upd (upd I0 26 (nI ln)) 31 z2) 35 (nI n)) 36 (kd f)) J0 (nI f) (cx (40 * f + b9)) (cy (40 * f + b9)) stp ln cl la lb lc ld (rfl) (by first | with_reducible assumption | omega) (by first | with_reducible assumption | omega) (by first | with_reducible assumption | omega)) (csV_201 hts rfl rfl ⟨Nat.le_of_ble_eq_true rfl, Nat.le_of_ble_eq_true rfl⟩) (zPV2 (q0 := 0) (ci := 9) hPc hDc hK hXN rfl rfl) rfl rfl hl.1 rfl (lv_room (Nat.le_of_ble_eq_true rfl)) dX11_plain_169 ⟨show (0 + (4 * (dl cl ln - cl))) ≤ 4 * (dl cl ln - cl) by omega, show (0 + (512 * (dl cl ln - cl))) ≤ 512 * (dl cl ln - cl) by omega⟩) hS hFc hFc rfl (fun t H locs ht hB hk1 hS => ?_)
                      obtain ⟨bl0, bl1, bl2, bl3, cl1, la1, lb1, lc1, ld1, hcc, hnn0, hnn1, hnn2, hnn3, hkk0, hkk1, hkk2, hkk3, hP1, hD1⟩ := hB
                      rw [ht] at hP1
                      obtain ⟨hP, hD⟩ := zk (W2 := [(oa (a 5) cI 201 st), (oa (a 6) cZ 201 tn), (oa (a 1) cI 201 kd), (oa (a 11) cI 201 mn2), (oa (a 12) cI 8040 cx2), (oa (a 13) cI 8040 cy2), (oa (a 32) cI 8 S3), (oa (a 40) cI 6 T3), (oa (a 29) cI 42 P3), (oa (a 30) cI 42 Q3), (oa (a 33) cI 42 ox3), (oa (a 34) cI 42 oy3), (oa (a 37) cZ 201 mt3), (oa (a 38) cZ 201 wi3), (oa (a 39) cZ 8040 ins3), (oa (a 43) cZ 40 fl1), (om k0 (va_up (va_up (va_up (va_up a 22 bl0) 23 bl1) 24 bl2) 25 bl3) (upd (upd (upd (upd I0 26 (nI (ln + 1))) 31 z2) 35 (nI n)) 36 (kd f)) J0), (oa bl0 cI (64 * cl1) la1), (oa bl1 cI (64 * cl1) lb1), (oa bl2 cI (64 * cl1) lc1), (oa bl3 cI (64 * cl1) ld1)]) hP hD [0, 17, 18, 19, 20] [1, 2, 3, 4, 5, 6, 7, 8, 9, 10, 11, 12, 13, 14, 15, 16] [0, 1, 2, 3, 4, 5, 6, 7, 8, 9, 10, 11, 12, 13, 14, 15] [16, 17, 18, 19, 20] [0, 1, 2, 3, 4, 5, 6, 7, 8, 9, 10, 11, 12, 13, 14, 15, 16, 17, 18, 19, 20] 21 rfl rfl rfl rfl rfl rfl rfl rfl rfl hk1 hFc hP1 hD1
                      clear hk1 hPc hDc hFc hP1 hD1 ht
                      refine lv_iconst (v := 1) hx hb dX11_plain_172 rfl ?_
                      have hbest : pBest ft st tn kd mn cx cy f n L b9 := ⟨hbk, hcb, by assumption, fun j hj hc hl => hbm j hj (fun h => hfd j hj h hc hl)⟩
                      have hbe : b9 = kb := pBest_u hbest hkb
                      have h8 := hyes (by first | with_reducible assumption | assumption)
                      rw [hbe] at h8
                      obtain ⟨hP9, hD9⟩ := zq_sub (wc := [(om k0 (va_up (va_up (va_up (va_up a 22 bl0) 23 bl1) 24 bl2) 25 bl3) (upd (upd (upd (upd I0 26 (nI (ln + 1))) 31 z2) 35 (nI n)) 36 (kd f)) J0), (oa (a 5) cI 201 st), (oa (a 6) cZ 201 tn), (oa (a 1) cI 201 kd), (oa (a 11) cI 201 mn2), (oa (a 12) cI 8040 cx2), (oa (a 13) cI 8040 cy2), (oa (a 32) cI 8 S3), (oa (a 40) cI 6 T3), (oa (a 29) cI 42 P3), (oa (a 30) cI 42 Q3), (oa (a 33) cI 42 ox3), (oa (a 34) cI 42 oy3), (oa (a 37) cZ 201 mt3), (oa (a 38) cZ 201 wi3), (oa (a 39) cZ 8040 ins3), (oa (a 43) cZ 40 fl1), (oa bl0 cI (64 * cl1) la1), (oa bl1 cI (64 * cl1) lb1), (oa bl2 cI (64 * cl1) lc1), (oa bl3 cI (64 * cl1) ld1)]) hP hD [16, 0, 1, 2, 3, 4, 5, 6, 7, 8, 9, 10, 11, 12, 13, 14, 15, 17, 18, 19, 20] rfl rfl
                      have hE9 : ([(om k0 (va_up (va_up (va_up (va_up a 22 bl0) 23 bl1) 24 bl2) 25 bl3) (upd (upd (upd (upd I0 26 (nI (ln + 1))) 31 z2) 35 (nI n)) 36 (kd f)) J0), (oa (a 5) cI 201 st), (oa (a 6) cZ 201 tn), (oa (a 1) cI 201 kd), (oa (a 11) cI 201 mn2), (oa (a 12) cI 8040 cx2), (oa (a 13) cI 8040 cy2), (oa (a 32) cI 8 S3), (oa (a 40) cI 6 T3), (oa (a 29) cI 42 P3), (oa (a 30) cI 42 Q3), (oa (a 33) cI 42 ox3), (oa (a 34) cI 42 oy3), (oa (a 37) cZ 201 mt3), (oa (a 38) cZ 201 wi3), (oa (a 39) cZ 8040 ins3), (oa (a 43) cZ 40 fl1), (oa bl0 cI (64 * cl1) la1), (oa bl1 cI (64 * cl1) lb1), (oa bl2 cI (64 * cl1) lc1), (oa bl3 cI (64 * cl1) ld1)] : va_W) = [(om k0 (va_up (va_up (va_up (va_up a 22 bl0) 23 bl1) 24 bl2) 25 bl3) (upd (upd (upd (upd I0 26 (nI (ln + 1))) 31 z2) 35 (nI n)) 36 (kd f)) J0), (oa (a 5) cI 201 st), (oa (a 6) cZ 201 tn), (oa (a 1) cI 201 kd), (oa (a 11) cI 201 (upd mn f (nI (n - 1)))), (oa (a 12) cI 8040 (shp f kb (n - 1) cx)), (oa (a 13) cI 8040 (shp f kb (n - 1) cy)), (oa (a 32) cI 8 S3), (oa (a 40) cI 6 T3), (oa (a 29) cI 42 P3), (oa (a 30) cI 42 Q3), (oa (a 33) cI 42 ox3), (oa (a 34) cI 42 oy3), (oa (a 37) cZ 201 mt3), (oa (a 38) cZ 201 wi3), (oa (a 39) cZ 8040 ins3), (oa (a 43) cZ 40 fl1), (oa bl0 cI (64 * (dl cl ln)) la1), (oa bl1 cI (64 * (dl cl ln)) lb1), (oa bl2 cI (64 * (dl cl ln)) lc1), (oa bl3 cI (64 * (dl cl ln)) ld1)] := by rw [h8.1, h8.2.1, h8.2.2, hcc]
                      rw [hE9] at hP9 hD9
                      refine W.widen (k := 4 * (dl cl ln - cl)) (n := 512 * (dl cl ln - cl)) (by omega) (by omega) ?_
                      rw [hQ9]
                      exact W.zret (ty := .boolean) (v := 1) hx hb hr (rfl) (fun t ht hW => ⟨⟨rfl, z2, (nI n), (kd f), S3, T3, P3, Q3, ox3, oy3, mt3, wi3, ins3, fl1, bl0, bl1, bl2, bl3, la1, lb1, lc1, ld1, (fun h j hj => by rcases Nat.lt_or_ge j ln with q | q; rw [hkk1 j q, hkk2 j q]; exact h j q; rw [show j = ln by omega, hnn1, hnn2]; exact hp_f b9 hbk), by rw [ht]; exact hP9, hD9⟩, hS.F ht⟩) hS.2.2 dX11_plain_173
                  · have c_7 : zb.toInt = (-1) := zc_eq rfl rfl c_7
                    exact absurd hkb (by intro h9; exact hfd kb h9.1 (bst_no hat (by omega) (by omega) kb (by have := h9.1; omega)) h9.2.1 h9.2.2.1)
                · have c_5 : ((k : Nat) : Int) < ((n : Nat) : Int) := zc_nle (nI_toInt b9_4) (nI_toInt b9_6) c_5
                  have hk9 : k < n := (by omega)
                  have hfk := hfs k hk9
                  have htB := trB hp_f hk9
                  refine lv_aload_n hx hb dX11_plain_71 rfl (lv_at hl 2 rfl) ?_
                  refine va_get (D := (dC, dI)) (ci := 9) (v := .ref (a 43)) (C := RX11) (T := TX11) (N := 55) hx hb hts inX11 hown hK hP 0 rfl rfl 43 (Nat.le_of_ble_eq_true rfl) (hts _ mw_1202) (fun _ h9 => h9) rfl dX11_plain_72 ?_
                  refine lv_iload hx hb dX11_plain_75 (lv_at hl 0 rfl) ?_
                  have b9_11 : k < 40 := by omega
                  refine z_zald hx hb hK hP 16 1 rfl rfl (e := k) rfl b9_11 (Nat.le_of_ble_eq_true rfl) dX11_plain_77 ?_
                  refine zz_i (v := pI (FS k)) (hfk) ?_
                  refine lv_if_ne (tgt := 109) hx hb dX11_plain_78 rfl (fun c_12 => ?_) (fun c_12 => ?_)
                  · have c_12 : FS k := zp_1 c_12
                    refine lv_iinc (v := nI (k + 1)) (lv' := [(6, .int (nI (k + 1))), (5, .int zb), (0, .ref k0), (1, .int (nI f)), (2, .long (jI ((L : Nat) : Int))), (4, .int stp)]) hx hb dX11_plain_109 hl (k := 0) rfl (nI_add k 1) (Nat.le_of_ble_eq_true rfl) rfl (fun ls hl => ?_)
                    refine lv_goto (tgt := 60) hx hb dX11_plain_112 rfl ?_
                    exact ih_60 (k + 1) zb H locs ls (by first | with_reducible assumption | omega) (by first | with_reducible assumption | omega) (by first | exact bst_f hat (by first | with_reducible assumption | assumption) | exact bst_n hat (by first | with_reducible assumption | omega) (by first | with_reducible assumption | omega) (by first | with_reducible assumption | assumption) | exact bst_l hz9 hbk hbF hbm (by first | with_reducible assumption | assumption) (by first | with_reducible assumption | omega) | exact bst_g hz9 hbk hbF hbm (by first | with_reducible assumption | omega)) hP hD hS (lv_sub hl [0, 1, 2, 3, 4, 5] rfl)
                  · have c_12 : ¬ (FS k) := zp_0 c_12
                    refine lv_iload hx hb dX11_plain_81 (lv_at hl 1 rfl) ?_
                    refine lv_iconst (v := (-1)) hx hb dX11_plain_83 rfl ?_
                    refine lv_icmp_eq (tgt := 105) hx hb dX11_plain_84 rfl (fun c_13 => ?_) (fun c_13 => ?_)
                    · have c_13 : zb.toInt = (-1) := zc_eq rfl rfl c_13
                      refine lv_iload hx hb dX11_plain_105 (lv_at hl 0 rfl) ?_
                      refine lv_istore (lv' := [(5, .int (nI k)), (6, .int (nI k)), (0, .ref k0), (1, .int (nI f)), (2, .long (jI ((L : Nat) : Int))), (4, .int stp)]) hx hb dX11_plain_107 hl (Nat.le_of_ble_eq_true rfl) rfl (fun ls hl => ?_)
                      refine lv_iinc (v := nI (k + 1)) (lv' := [(6, .int (nI (k + 1))), (5, .int (nI k)), (0, .ref k0), (1, .int (nI f)), (2, .long (jI ((L : Nat) : Int))), (4, .int stp)]) hx hb dX11_plain_109 hl (k := 1) rfl (nI_add k 1) (Nat.le_of_ble_eq_true rfl) rfl (fun ls hl => ?_)
                      refine lv_goto (tgt := 60) hx hb dX11_plain_112 rfl ?_
                      exact ih_60 (k + 1) (nI k) H locs ls (by first | with_reducible assumption | omega) (by first | with_reducible assumption | omega) (by first | exact bst_f hat (by first | with_reducible assumption | assumption) | exact bst_n hat (by first | with_reducible assumption | omega) (by first | with_reducible assumption | omega) (by first | with_reducible assumption | assumption) | exact bst_l hz9 hbk hbF hbm (by first | with_reducible assumption | assumption) (by first | with_reducible assumption | omega) | exact bst_g hz9 hbk hbF hbm (by first | with_reducible assumption | omega)) hP hD hS (lv_sub hl [0, 1, 2, 3, 4, 5] rfl)
                    · have c_13 : ¬ zb.toInt = (-1) := zc_ne rfl rfl c_13
                      obtain ⟨b9, hz9, hbk, hbF, hbm⟩ := bst_get hat (by omega)
                      have htb := trB (k := b9) hp_f (by omega)
                      refine lv_aload_n hx hb dX11_plain_87 rfl (lv_at hl 2 rfl) ?_
                      refine lv_iload_n hx hb dX11_plain_88 rfl (lv_at hl 3 rfl) ?_
                      refine lv_iload hx hb dX11_plain_89 (lv_at hl 0 rfl) ?_
                      obtain ⟨hPc, hDc, hFc⟩ := zc_sub (wc := [(om k0 a (upd (upd (upd (upd I0 26 (nI ln)) 31 z9) 35 on1) 36 ok1) J0), (oa (a 11) cI 201 mn), (oa (a 12) cI 8040 cx), (oa (a 13) cI 8040 cy)]) hP hD hS hA [0, 4, 5, 6] rfl rfl
                      refine zcall (st1 := [.long (jI ((Int.natAbs (cr (cF40 cx f (prv n k)).toInt (cF40 cy f (prv n k)).toInt (cF40 cx f k).toInt (cF40 cy f k).toInt (cF40 cx f (nxt n k)).toInt (cF40 cy f (nxt n k)).toInt) : Nat) : Int))]) (va_runV (As := [.int (nI f), .int (nI k)]) (rest := []) ⟨hx, hb, hml, hown, hts⟩ (k_M_triangle l dC dI cI cZ cF H.size k0 a (upd (upd (upd (upd I0 26 (nI ln)) 31 z9) 35 on1) 36 ok1) J0 f n k mn cx cy (by first | with_reducible assumption | omega) (by first | with_reducible assumption | assumption) (by first | with_reducible assumption | omega) (by first | with_reducible assumption | assumption) (by first | with_reducible assumption | omega)) (csV_202 hts rfl rfl ⟨Nat.le_of_ble_eq_true rfl, Nat.le_of_ble_eq_true rfl⟩) (zPV2 (q0 := 0) (ci := 9) hPc hDc hK hXN rfl rfl) rfl rfl hl.1 rfl (lv_room (Nat.le_of_ble_eq_true rfl)) dX11_plain_91 ⟨show 0 ≤ 4 * (dl cl ln - cl) by omega, show 0 ≤ 512 * (dl cl ln - cl) by omega⟩) hS hFc hFc rfl (fun t H locs ht hB hk1 hS => ?_)
                      obtain ⟨hP1, hD1⟩ := hB
                      rw [ht] at hP1
                      obtain ⟨hP, hD⟩ := zk (W2 := [(om k0 a (upd (upd (upd (upd I0 26 (nI ln)) 31 z9) 35 on1) 36 ok1) J0), (oa (a 5) cI 201 st), (oa (a 6) cZ 201 tn), (oa (a 1) cI 201 kd), (oa (a 11) cI 201 mn), (oa (a 12) cI 8040 cx), (oa (a 13) cI 8040 cy), (oa (a 32) cI 8 S1), (oa (a 40) cI 6 T1), (oa (a 29) cI 42 P1), (oa (a 30) cI 42 Q1), (oa (a 33) cI 42 ox1), (oa (a 34) cI 42 oy1), (oa (a 37) cZ 201 mt1), (oa (a 38) cZ 201 wi1), (oa (a 39) cZ 8040 ins1), (oa (a 43) cZ 40 fl1), (oa (a 22) cI (64 * cl) la), (oa (a 23) cI (64 * cl) lb), (oa (a 24) cI (64 * cl) lc), (oa (a 25) cI (64 * cl) ld)]) hP hD [0, 4, 5, 6] [1, 2, 3, 7, 8, 9, 10, 11, 12, 13, 14, 15, 16, 17, 18, 19, 20] [1, 2, 3, 7, 8, 9, 10, 11, 12, 13, 14, 15, 16, 17, 18, 19, 20] [0, 4, 5, 6] [17, 0, 1, 2, 18, 19, 20, 3, 4, 5, 6, 7, 8, 9, 10, 11, 12, 13, 14, 15, 16] 21 rfl rfl rfl rfl rfl rfl rfl rfl rfl hk1 hFc hP1 hD1
                      clear hk1 hPc hDc hFc hP1 hD1 ht
                      refine zz_l (v := jI ((trF cx cy f n k : Nat) : Int)) (rfl) ?_
                      refine lv_aload_n hx hb dX11_plain_94 rfl (lv_at hl 2 rfl) ?_
                      refine lv_iload_n hx hb dX11_plain_95 rfl (lv_at hl 3 rfl) ?_
                      refine lv_iload hx hb dX11_plain_96 (lv_at hl 1 rfl) ?_
                      refine zz_i (v := nI b9) (hz9) ?_
                      obtain ⟨hPc, hDc, hFc⟩ := zc_sub (wc := [(om k0 a (upd (upd (upd (upd I0 26 (nI ln)) 31 z9) 35 on1) 36 ok1) J0), (oa (a 11) cI 201 mn), (oa (a 12) cI 8040 cx), (oa (a 13) cI 8040 cy)]) hP hD hS hA [0, 4, 5, 6] rfl rfl
                      refine zcall (st1 := [.long (jI ((Int.natAbs (cr (cF40 cx f (prv n b9)).toInt (cF40 cy f (prv n b9)).toInt (cF40 cx f b9).toInt (cF40 cy f b9).toInt (cF40 cx f (nxt n b9)).toInt (cF40 cy f (nxt n b9)).toInt) : Nat) : Int)), .long (jI ((trF cx cy f n k : Nat) : Int))]) (va_runV (As := [.int (nI f), .int (nI b9)]) (rest := [.long (jI ((trF cx cy f n k : Nat) : Int))]) ⟨hx, hb, hml, hown, hts⟩ (k_M_triangle l dC dI cI cZ cF H.size k0 a (upd (upd (upd (upd I0 26 (nI ln)) 31 z9) 35 on1) 36 ok1) J0 f n b9 mn cx cy (by first | with_reducible assumption | omega) (by first | with_reducible assumption | assumption) (by first | with_reducible assumption | omega) (by first | with_reducible assumption | assumption) (by first | with_reducible assumption | omega)) (csV_202 hts rfl rfl ⟨Nat.le_of_ble_eq_true rfl, Nat.le_of_ble_eq_true rfl⟩) (zPV2 (q0 := 0) (ci := 9) hPc hDc hK hXN rfl rfl) rfl rfl hl.1 rfl (lv_room (Nat.le_of_ble_eq_true rfl)) dX11_plain_98 ⟨show 0 ≤ 4 * (dl cl ln - cl) by omega, show 0 ≤ 512 * (dl cl ln - cl) by omega⟩) hS hFc hFc rfl (fun t H locs ht hB hk1 hS => ?_)
                      obtain ⟨hP1, hD1⟩ := hB
                      rw [ht] at hP1
                      obtain ⟨hP, hD⟩ := zk (W2 := [(om k0 a (upd (upd (upd (upd I0 26 (nI ln)) 31 z9) 35 on1) 36 ok1) J0), (oa (a 5) cI 201 st), (oa (a 6) cZ 201 tn), (oa (a 1) cI 201 kd), (oa (a 11) cI 201 mn), (oa (a 12) cI 8040 cx), (oa (a 13) cI 8040 cy), (oa (a 32) cI 8 S1), (oa (a 40) cI 6 T1), (oa (a 29) cI 42 P1), (oa (a 30) cI 42 Q1), (oa (a 33) cI 42 ox1), (oa (a 34) cI 42 oy1), (oa (a 37) cZ 201 mt1), (oa (a 38) cZ 201 wi1), (oa (a 39) cZ 8040 ins1), (oa (a 43) cZ 40 fl1), (oa (a 22) cI (64 * cl) la), (oa (a 23) cI (64 * cl) lb), (oa (a 24) cI (64 * cl) lc), (oa (a 25) cI (64 * cl) ld)]) hP hD [0, 4, 5, 6] [1, 2, 3, 7, 8, 9, 10, 11, 12, 13, 14, 15, 16, 17, 18, 19, 20] [1, 2, 3, 7, 8, 9, 10, 11, 12, 13, 14, 15, 16, 17, 18, 19, 20] [0, 4, 5, 6] [17, 0, 1, 2, 18, 19, 20, 3, 4, 5, 6, 7, 8, 9, 10, 11, 12, 13, 14, 15, 16] 21 rfl rfl rfl rfl rfl rfl rfl rfl rfl hk1 hFc hP1 hD1
                      clear hk1 hPc hDc hFc hP1 hD1 ht
                      refine zz_l (v := jI ((trF cx cy f n b9 : Nat) : Int)) (rfl) ?_
                      refine W.lcmp hx hb dX11_plain_101 ?_
                      refine lv_if_ge (tgt := 109) hx hb dX11_plain_102 rfl (fun c_14 => ?_) (fun c_14 => ?_)
                      · have c_14 : ((trF cx cy f n b9 : Nat) : Int) ≤ ((trF cx cy f n k : Nat) : Int) := zl_ge (jI_toInt (by omega)) (jI_toInt (by omega)) c_14
                        refine lv_iinc (v := nI (k + 1)) (lv' := [(6, .int (nI (k + 1))), (5, .int zb), (0, .ref k0), (1, .int (nI f)), (2, .long (jI ((L : Nat) : Int))), (4, .int stp)]) hx hb dX11_plain_109 hl (k := 0) rfl (nI_add k 1) (Nat.le_of_ble_eq_true rfl) rfl (fun ls hl => ?_)
                        refine lv_goto (tgt := 60) hx hb dX11_plain_112 rfl ?_
                        exact ih_60 (k + 1) zb H locs ls (by first | with_reducible assumption | omega) (by first | with_reducible assumption | omega) (by first | exact bst_f hat (by first | with_reducible assumption | assumption) | exact bst_n hat (by first | with_reducible assumption | omega) (by first | with_reducible assumption | omega) (by first | with_reducible assumption | assumption) | exact bst_l hz9 hbk hbF hbm (by first | with_reducible assumption | assumption) (by first | with_reducible assumption | omega) | exact bst_g hz9 hbk hbF hbm (by first | with_reducible assumption | omega)) hP hD hS (lv_sub hl [0, 1, 2, 3, 4, 5] rfl)
                      · have c_14 : ((trF cx cy f n k : Nat) : Int) < ((trF cx cy f n b9 : Nat) : Int) := zl_nge (jI_toInt (by omega)) (jI_toInt (by omega)) c_14
                        refine lv_iload hx hb dX11_plain_105 (lv_at hl 0 rfl) ?_
                        refine lv_istore (lv' := [(5, .int (nI k)), (6, .int (nI k)), (0, .ref k0), (1, .int (nI f)), (2, .long (jI ((L : Nat) : Int))), (4, .int stp)]) hx hb dX11_plain_107 hl (Nat.le_of_ble_eq_true rfl) rfl (fun ls hl => ?_)
                        refine lv_iinc (v := nI (k + 1)) (lv' := [(6, .int (nI (k + 1))), (5, .int (nI k)), (0, .ref k0), (1, .int (nI f)), (2, .long (jI ((L : Nat) : Int))), (4, .int stp)]) hx hb dX11_plain_109 hl (k := 1) rfl (nI_add k 1) (Nat.le_of_ble_eq_true rfl) rfl (fun ls hl => ?_)
                        refine lv_goto (tgt := 60) hx hb dX11_plain_112 rfl ?_
                        exact ih_60 (k + 1) (nI k) H locs ls (by first | with_reducible assumption | omega) (by first | with_reducible assumption | omega) (by first | exact bst_f hat (by first | with_reducible assumption | assumption) | exact bst_n hat (by first | with_reducible assumption | omega) (by first | with_reducible assumption | omega) (by first | with_reducible assumption | assumption) | exact bst_l hz9 hbk hbF hbm (by first | with_reducible assumption | assumption) (by first | with_reducible assumption | omega) | exact bst_g hz9 hbk hbF hbm (by first | with_reducible assumption | omega)) hP hD hS (lv_sub hl [0, 1, 2, 3, 4, 5] rfl)
            exact hl_60 _ 0 (-1) H locs ls (Nat.lt_succ_self _) (by first | with_reducible assumption | omega) (bst_0 _ _) hP hD hS (lv_sub hl [0, 1, 2, 3, 4, 5] rfl)
        exact hl_54 _ (fun j => ¬ cnd ft st tn kd mn cx cy f n L j) (I0 31) (I0 35) (I0 36) S1 T0 P0 Q0 ox oy mt wi ins fl1 H locs ls (Nat.lt_succ_self _) (fun j hj => hfl j (by first | with_reducible assumption | omega)) (fun j hj h => Classical.not_not.mp h) (fun j hj h h2 => absurd h2 h) hP hD hS (lv_sub hl [1, 2, 3, 4] rfl)
      · have c_2 : ((k : Nat) : Int) < ((n : Nat) : Int) := zc_nle (nI_toInt b9_4) (nI_toInt b9_3) c_2
        have hk9 : k < n := (by omega)
        refine lv_aload_n hx hb dX11_plain_14 rfl (lv_at hl 1 rfl) ?_
        refine va_get (D := (dC, dI)) (ci := 9) (v := .ref (a 43)) (C := RX11) (T := TX11) (N := 55) hx hb hts inX11 hown hK hP 0 rfl rfl 43 (Nat.le_of_ble_eq_true rfl) (hts _ mw_1202) (fun _ h9 => h9) rfl dX11_plain_15 ?_
        refine lv_iload hx hb dX11_plain_18 (lv_at hl 0 rfl) ?_
        refine lv_aload_n hx hb dX11_plain_20 rfl (lv_at hl 1 rfl) ?_
        refine lv_iload_n hx hb dX11_plain_21 rfl (lv_at hl 2 rfl) ?_
        refine lv_iload hx hb dX11_plain_22 (lv_at hl 0 rfl) ?_
        obtain ⟨hPc, hDc, hFc⟩ := zc_sub (wc := [(om k0 a (upd I0 26 (nI ln)) J0), (oa (a 5) cI 201 st), (oa (a 6) cZ 201 tn), (oa (a 1) cI 201 kd), (oa (a 11) cI 201 mn), (oa (a 12) cI 8040 cx), (oa (a 13) cI 8040 cy), (oa (a 32) cI 8 S1)]) hP hD hS hA [0, 1, 2, 3, 4, 5, 6, 7] rfl rfl
        refine zcall (st1 := [.int (pI (mGo ft st tn kd mn cx cy f n k)), .int (nI k), .ref (a 43)]) (va_runV (As := [.int (nI f), .int (nI k)]) (rest := [.int (nI k), .ref (a 43)]) ⟨hx, hb, hml, hown, hts⟩ (k_M_mayGo l dC dI cI cZ cF H.size k0 a (upd I0 26 (nI ln)) J0 f n k ft st tn kd mn cx cy S1 (by first | with_reducible assumption | assumption) (by first | with_reducible assumption | omega) (by first | with_reducible assumption | omega) (by first | with_reducible assumption | assumption) (by first | with_reducible assumption | omega) (by first | with_reducible assumption | assumption) (by first | with_reducible assumption | omega) (by first | with_reducible assumption | assumption)) (csV_203 hts rfl rfl ⟨Nat.le_of_ble_eq_true rfl, Nat.le_of_ble_eq_true rfl⟩) (zPV2 (q0 := 0) (ci := 9) hPc hDc hK hXN rfl rfl) rfl rfl hl.1 rfl (lv_room (Nat.le_of_ble_eq_true rfl)) dX11_plain_24 ⟨show 0 ≤ 4 * (dl cl ln - cl) by omega, show 0 ≤ 512 * (dl cl ln - cl) by omega⟩) hS hFc hFc rfl (fun t H locs ht hB hk1 hS => ?_)
        obtain ⟨S2, hP1, hD1⟩ := hB
        rw [ht] at hP1
        obtain ⟨hP, hD⟩ := zk (W2 := [(om k0 a (upd I0 26 (nI ln)) J0), (oa (a 5) cI 201 st), (oa (a 6) cZ 201 tn), (oa (a 1) cI 201 kd), (oa (a 11) cI 201 mn), (oa (a 12) cI 8040 cx), (oa (a 13) cI 8040 cy), (oa (a 32) cI 8 S2), (oa (a 40) cI 6 T0), (oa (a 29) cI 42 P0), (oa (a 30) cI 42 Q0), (oa (a 33) cI 42 ox), (oa (a 34) cI 42 oy), (oa (a 37) cZ 201 mt), (oa (a 38) cZ 201 wi), (oa (a 39) cZ 8040 ins), (oa (a 43) cZ 40 fl1), (oa (a 22) cI (64 * cl) la), (oa (a 23) cI (64 * cl) lb), (oa (a 24) cI (64 * cl) lc), (oa (a 25) cI (64 * cl) ld)]) hP hD [0, 1, 2, 3, 4, 5, 6, 7] [8, 9, 10, 11, 12, 13, 14, 15, 16, 17, 18, 19, 20] [8, 9, 10, 11, 12, 13, 14, 15, 16, 17, 18, 19, 20] [0, 1, 2, 3, 4, 5, 6, 7] [13, 14, 15, 16, 17, 18, 19, 20, 0, 1, 2, 3, 4, 5, 6, 7, 8, 9, 10, 11, 12] 21 rfl rfl rfl rfl rfl rfl rfl rfl rfl hk1 hFc hP1 hD1
        clear hk1 hPc hDc hFc hP1 hD1 ht
        refine lv_if_eq (tgt := 42) hx hb dX11_plain_27 rfl (fun c_15 => ?_) (fun c_15 => ?_)
        · have c_15 : ¬ (mGo ft st tn kd mn cx cy f n k) := zp_0 c_15
          refine lv_iconst (v := 1) hx hb dX11_plain_42 rfl ?_
          refine lv_goto (tgt := 47) hx hb dX11_plain_43 rfl ?_
          refine zz_i (v := pI (¬ cnd ft st tn kd mn cx cy f n L k)) (by first | exact (zp_t (fun h => absurd h.1 (by first | with_reducible assumption | assumption))).symm | exact (zp_t (fun h => absurd h.2 (by omega))).symm | exact (zp_f (fun h => h ⟨by assumption, by omega⟩)).symm) ?_
          have b9_16 : k < 40 := by omega
          refine z_zast hx hb hK hP hD hS 16 1 rfl rfl (e := k) (x := pI (¬ cnd ft st tn kd mn cx cy f n L k)) rfl b9_16 (Nat.le_of_ble_eq_true rfl) (zp_and _) dX11_plain_47 (fun H locs hP hD hS => ?_)
          obtain ⟨hP, hD⟩ : zPD (dC, dI) classes A [(om k0 a (upd I0 26 (nI ln)) J0), (oa (a 5) cI 201 st), (oa (a 6) cZ 201 tn), (oa (a 1) cI 201 kd), (oa (a 11) cI 201 mn), (oa (a 12) cI 8040 cx), (oa (a 13) cI 8040 cy), (oa (a 32) cI 8 S2), (oa (a 40) cI 6 T0), (oa (a 29) cI 42 P0), (oa (a 30) cI 42 Q0), (oa (a 33) cI 42 ox), (oa (a 34) cI 42 oy), (oa (a 37) cZ 201 mt), (oa (a 38) cZ 201 wi), (oa (a 39) cZ 8040 ins), (oa (a 43) cZ 40 (upd fl1 k (pI (¬ cnd ft st tn kd mn cx cy f n L k)))), (oa (a 22) cI (64 * cl) la), (oa (a 23) cI (64 * cl) lb), (oa (a 24) cI (64 * cl) lc), (oa (a 25) cI (64 * cl) ld)] H := ⟨hP, hD⟩
          refine lv_iinc (v := nI (k + 1)) (lv' := [(5, .int (nI (k + 1))), (0, .ref k0), (1, .int (nI f)), (2, .long (jI ((L : Nat) : Int))), (4, .int stp)]) hx hb dX11_plain_48 hl (k := 0) rfl (nI_add k 1) (Nat.le_of_ble_eq_true rfl) rfl (fun ls hl => ?_)
          refine lv_goto (tgt := 3) hx hb dX11_plain_51 rfl ?_
          exact ih_3 (k + 1) S2 (upd fl1 k (pI (¬ cnd ft st tn kd mn cx cy f n L k))) H locs ls (by first | with_reducible assumption | omega) (by first | with_reducible assumption | omega) (by intro j hj; rcases Nat.lt_or_ge j k with h | h; simp only [upd, if_neg (show j ≠ k by omega)]; exact hfl j h; rw [show j = k by omega]; simp only [upd, if_true]) hP hD hS (lv_sub hl [0, 1, 2, 3, 4] rfl)
        · have c_15 : mGo ft st tn kd mn cx cy f n k := zp_1 c_15
          refine lv_aload_n hx hb dX11_plain_30 rfl (lv_at hl 1 rfl) ?_
          refine lv_iload_n hx hb dX11_plain_31 rfl (lv_at hl 2 rfl) ?_
          refine lv_iload hx hb dX11_plain_32 (lv_at hl 0 rfl) ?_
          obtain ⟨hPc, hDc, hFc⟩ := zc_sub (wc := [(om k0 a (upd I0 26 (nI ln)) J0), (oa (a 11) cI 201 mn), (oa (a 12) cI 8040 cx), (oa (a 13) cI 8040 cy)]) hP hD hS hA [0, 4, 5, 6] rfl rfl
          refine zcall (st1 := [.long (jI ((Int.natAbs (cr (cF40 cx f (prv n k)).toInt (cF40 cy f (prv n k)).toInt (cF40 cx f k).toInt (cF40 cy f k).toInt (cF40 cx f (nxt n k)).toInt (cF40 cy f (nxt n k)).toInt) : Nat) : Int)), .int (nI k), .ref (a 43)]) (va_runV (As := [.int (nI f), .int (nI k)]) (rest := [.int (nI k), .ref (a 43)]) ⟨hx, hb, hml, hown, hts⟩ (k_M_triangle l dC dI cI cZ cF H.size k0 a (upd I0 26 (nI ln)) J0 f n k mn cx cy (by first | with_reducible assumption | omega) (by first | with_reducible assumption | assumption) (by first | with_reducible assumption | omega) (by first | with_reducible assumption | assumption) (by first | with_reducible assumption | omega)) (csV_202 hts rfl rfl ⟨Nat.le_of_ble_eq_true rfl, Nat.le_of_ble_eq_true rfl⟩) (zPV2 (q0 := 0) (ci := 9) hPc hDc hK hXN rfl rfl) rfl rfl hl.1 rfl (lv_room (Nat.le_of_ble_eq_true rfl)) dX11_plain_34 ⟨show 0 ≤ 4 * (dl cl ln - cl) by omega, show 0 ≤ 512 * (dl cl ln - cl) by omega⟩) hS hFc hFc rfl (fun t H locs ht hB hk1 hS => ?_)
          obtain ⟨hP1, hD1⟩ := hB
          rw [ht] at hP1
          obtain ⟨hP, hD⟩ := zk (W2 := [(om k0 a (upd I0 26 (nI ln)) J0), (oa (a 5) cI 201 st), (oa (a 6) cZ 201 tn), (oa (a 1) cI 201 kd), (oa (a 11) cI 201 mn), (oa (a 12) cI 8040 cx), (oa (a 13) cI 8040 cy), (oa (a 32) cI 8 S2), (oa (a 40) cI 6 T0), (oa (a 29) cI 42 P0), (oa (a 30) cI 42 Q0), (oa (a 33) cI 42 ox), (oa (a 34) cI 42 oy), (oa (a 37) cZ 201 mt), (oa (a 38) cZ 201 wi), (oa (a 39) cZ 8040 ins), (oa (a 43) cZ 40 fl1), (oa (a 22) cI (64 * cl) la), (oa (a 23) cI (64 * cl) lb), (oa (a 24) cI (64 * cl) lc), (oa (a 25) cI (64 * cl) ld)]) hP hD [0, 4, 5, 6] [1, 2, 3, 7, 8, 9, 10, 11, 12, 13, 14, 15, 16, 17, 18, 19, 20] [1, 2, 3, 7, 8, 9, 10, 11, 12, 13, 14, 15, 16, 17, 18, 19, 20] [0, 4, 5, 6] [17, 0, 1, 2, 18, 19, 20, 3, 4, 5, 6, 7, 8, 9, 10, 11, 12, 13, 14, 15, 16] 21 rfl rfl rfl rfl rfl rfl rfl rfl rfl hk1 hFc hP1 hD1
          clear hk1 hPc hDc hFc hP1 hD1 ht
          refine zz_l (v := jI ((trF cx cy f n k : Nat) : Int)) (rfl) ?_
          have htB := trB hp_f hk9
          refine lv_lload_n hx hb dX11_plain_37 rfl (lv_at hl 3 rfl) ?_
          refine W.lcmp hx hb dX11_plain_38 ?_
          refine lv_if_le (tgt := 46) hx hb dX11_plain_39 rfl (fun c_17 => ?_) (fun c_17 => ?_)
          · have c_17 : ((trF cx cy f n k : Nat) : Int) ≤ ((L : Nat) : Int) := zl_le (jI_toInt (by omega)) (jI_toInt (by omega)) c_17
            refine lv_iconst (v := 0) hx hb dX11_plain_46 rfl ?_
            refine zz_i (v := pI (¬ cnd ft st tn kd mn cx cy f n L k)) (by first | exact (zp_t (fun h => absurd h.1 (by first | with_reducible assumption | assumption))).symm | exact (zp_t (fun h => absurd h.2 (by omega))).symm | exact (zp_f (fun h => h ⟨by assumption, by omega⟩)).symm) ?_
            have b9_18 : k < 40 := by omega
            refine z_zast hx hb hK hP hD hS 16 1 rfl rfl (e := k) (x := pI (¬ cnd ft st tn kd mn cx cy f n L k)) rfl b9_18 (Nat.le_of_ble_eq_true rfl) (zp_and _) dX11_plain_47 (fun H locs hP hD hS => ?_)
            obtain ⟨hP, hD⟩ : zPD (dC, dI) classes A [(om k0 a (upd I0 26 (nI ln)) J0), (oa (a 5) cI 201 st), (oa (a 6) cZ 201 tn), (oa (a 1) cI 201 kd), (oa (a 11) cI 201 mn), (oa (a 12) cI 8040 cx), (oa (a 13) cI 8040 cy), (oa (a 32) cI 8 S2), (oa (a 40) cI 6 T0), (oa (a 29) cI 42 P0), (oa (a 30) cI 42 Q0), (oa (a 33) cI 42 ox), (oa (a 34) cI 42 oy), (oa (a 37) cZ 201 mt), (oa (a 38) cZ 201 wi), (oa (a 39) cZ 8040 ins), (oa (a 43) cZ 40 (upd fl1 k (pI (¬ cnd ft st tn kd mn cx cy f n L k)))), (oa (a 22) cI (64 * cl) la), (oa (a 23) cI (64 * cl) lb), (oa (a 24) cI (64 * cl) lc), (oa (a 25) cI (64 * cl) ld)] H := ⟨hP, hD⟩
            refine lv_iinc (v := nI (k + 1)) (lv' := [(5, .int (nI (k + 1))), (0, .ref k0), (1, .int (nI f)), (2, .long (jI ((L : Nat) : Int))), (4, .int stp)]) hx hb dX11_plain_48 hl (k := 0) rfl (nI_add k 1) (Nat.le_of_ble_eq_true rfl) rfl (fun ls hl => ?_)
            refine lv_goto (tgt := 3) hx hb dX11_plain_51 rfl ?_
            exact ih_3 (k + 1) S2 (upd fl1 k (pI (¬ cnd ft st tn kd mn cx cy f n L k))) H locs ls (by first | with_reducible assumption | omega) (by first | with_reducible assumption | omega) (by intro j hj; rcases Nat.lt_or_ge j k with h | h; simp only [upd, if_neg (show j ≠ k by omega)]; exact hfl j h; rw [show j = k by omega]; simp only [upd, if_true]) hP hD hS (lv_sub hl [0, 1, 2, 3, 4] rfl)
          · have c_17 : ((L : Nat) : Int) < ((trF cx cy f n k : Nat) : Int) := zl_nle (jI_toInt (by omega)) (jI_toInt (by omega)) c_17
            refine lv_iconst (v := 1) hx hb dX11_plain_42 rfl ?_
            refine lv_goto (tgt := 47) hx hb dX11_plain_43 rfl ?_
            refine zz_i (v := pI (¬ cnd ft st tn kd mn cx cy f n L k)) (by first | exact (zp_t (fun h => absurd h.1 (by first | with_reducible assumption | assumption))).symm | exact (zp_t (fun h => absurd h.2 (by omega))).symm | exact (zp_f (fun h => h ⟨by assumption, by omega⟩)).symm) ?_
            have b9_19 : k < 40 := by omega
            refine z_zast hx hb hK hP hD hS 16 1 rfl rfl (e := k) (x := pI (¬ cnd ft st tn kd mn cx cy f n L k)) rfl b9_19 (Nat.le_of_ble_eq_true rfl) (zp_and _) dX11_plain_47 (fun H locs hP hD hS => ?_)
            obtain ⟨hP, hD⟩ : zPD (dC, dI) classes A [(om k0 a (upd I0 26 (nI ln)) J0), (oa (a 5) cI 201 st), (oa (a 6) cZ 201 tn), (oa (a 1) cI 201 kd), (oa (a 11) cI 201 mn), (oa (a 12) cI 8040 cx), (oa (a 13) cI 8040 cy), (oa (a 32) cI 8 S2), (oa (a 40) cI 6 T0), (oa (a 29) cI 42 P0), (oa (a 30) cI 42 Q0), (oa (a 33) cI 42 ox), (oa (a 34) cI 42 oy), (oa (a 37) cZ 201 mt), (oa (a 38) cZ 201 wi), (oa (a 39) cZ 8040 ins), (oa (a 43) cZ 40 (upd fl1 k (pI (¬ cnd ft st tn kd mn cx cy f n L k)))), (oa (a 22) cI (64 * cl) la), (oa (a 23) cI (64 * cl) lb), (oa (a 24) cI (64 * cl) lc), (oa (a 25) cI (64 * cl) ld)] H := ⟨hP, hD⟩
            refine lv_iinc (v := nI (k + 1)) (lv' := [(5, .int (nI (k + 1))), (0, .ref k0), (1, .int (nI f)), (2, .long (jI ((L : Nat) : Int))), (4, .int stp)]) hx hb dX11_plain_48 hl (k := 0) rfl (nI_add k 1) (Nat.le_of_ble_eq_true rfl) rfl (fun ls hl => ?_)
            refine lv_goto (tgt := 3) hx hb dX11_plain_51 rfl ?_
            exact ih_3 (k + 1) S2 (upd fl1 k (pI (¬ cnd ft st tn kd mn cx cy f n L k))) H locs ls (by first | with_reducible assumption | omega) (by first | with_reducible assumption | omega) (by intro j hj; rcases Nat.lt_or_ge j k with h | h; simp only [upd, if_neg (show j ≠ k by omega)]; exact hfl j h; rw [show j = k by omega]; simp only [upd, if_true]) hP hD hS (lv_sub hl [0, 1, 2, 3, 4] rfl)
  exact hl_3 _ 0 S0 fl s.heap [] ls (Nat.lt_succ_self _) (by first | with_reducible assumption | omega) (by intro j hj; omega) hP hD hS (lv_sub hl [0, 1, 2, 3, 4] rfl)
set_option maxHeartbeats 4000000 in
set_option maxRecDepth 100000 in
theorem k_M_plain_n (l : Launch) (dC : Nat → ClassId) (dI : Nat → Nat → Nat) (cI cZ cF : ClassId) (sz : Nat) (k0 : Nat) (a : Nat → Nat) (I0 : Nat → Int32) (J0 : Nat → Int64) (f : Nat) (n : Nat) (L : Nat) (ft : Nat) (ln : Nat) (cl : Nat) (stp : Int32) (st : Nat → Int32) (tn : Nat → Int32) (kd : Nat → Int32) (mn : Nat → Int32) (cx : Nat → Int32) (cy : Nat → Int32) (S0 : Nat → Int32) (T0 : Nat → Int32) (P0 : Nat → Int32) (Q0 : Nat → Int32) (ox : Nat → Int32) (oy : Nat → Int32) (mt : Nat → Int32) (wi : Nat → Int32) (ins : Nat → Int32) (fl : Nat → Int32) (la : Nat → Int32) (lb : Nat → Int32) (lc : Nat → Int32) (ld : Nat → Int32) (hft : I0 0 = nI ft) (h200 : ft ≤ 200) (hf_f : f ≤ 200) (hm_f : mn f = nI n) (hn_f : 1 ≤ n ∧ n ≤ 40) (hp_f : pls n (cF40 cx f) (cF40 cy f)) (hL : L ≤ 2147483647) (hwf : ∀ q, lvF ft st tn q → wfM mn cx cy q) (hr3 : 5 ≤ (kd f).toInt → 3 ≤ n) (hnb : ¬ ∃ k, pBest ft st tn kd mn cx cy f n L k) : Met l yX11_plain (.code yX11_plain cX11_plain 8 (some .boolean) :: ws0) ({ frames := 7, cells := 0, slots := 0, locals := 182 } : Room) (va_Pc [.ref k0, .int (nI f), .long (jI ((L : Nat) : Int)), .int stp] (zPre (dC, dI) classes (zTy cI cZ cF) [(om k0 a (upd I0 26 (nI ln)) J0), (oa (a 5) cI 201 st), (oa (a 6) cZ 201 tn), (oa (a 1) cI 201 kd), (oa (a 11) cI 201 mn), (oa (a 12) cI 8040 cx), (oa (a 13) cI 8040 cy), (oa (a 32) cI 8 S0), (oa (a 40) cI 6 T0), (oa (a 29) cI 42 P0), (oa (a 30) cI 42 Q0), (oa (a 33) cI 42 ox), (oa (a 34) cI 42 oy), (oa (a 37) cZ 201 mt), (oa (a 38) cZ 201 wi), (oa (a 39) cZ 8040 ins), (oa (a 43) cZ 40 fl), (oa (a 22) cI (64 * cl) la), (oa (a 23) cI (64 * cl) lb), (oa (a 24) cI (64 * cl) lc), (oa (a 25) cI (64 * cl) ld)] sz zXN)) (zQ (some (.int 0)) (fun t => ∃ (z9 : Int32), ∃ (on1 : Int32), ∃ (ok1 : Int32), ∃ (S1 : Nat → Int32), ∃ (T1 : Nat → Int32), ∃ (P1 : Nat → Int32), ∃ (Q1 : Nat → Int32), ∃ (ox1 : Nat → Int32), ∃ (oy1 : Nat → Int32), ∃ (mt1 : Nat → Int32), ∃ (wi1 : Nat → Int32), ∃ (ins1 : Nat → Int32), ∃ (fl1 : Nat → Int32), va_P (dC, dI) classes [(om k0 a (upd (upd (upd (upd I0 26 (nI ln)) 31 z9) 35 on1) 36 ok1) J0), (oa (a 5) cI 201 st), (oa (a 6) cZ 201 tn), (oa (a 1) cI 201 kd), (oa (a 11) cI 201 mn), (oa (a 12) cI 8040 cx), (oa (a 13) cI 8040 cy), (oa (a 32) cI 8 S1), (oa (a 40) cI 6 T1), (oa (a 29) cI 42 P1), (oa (a 30) cI 42 Q1), (oa (a 33) cI 42 ox1), (oa (a 34) cI 42 oy1), (oa (a 37) cZ 201 mt1), (oa (a 38) cZ 201 wi1), (oa (a 39) cZ 8040 ins1), (oa (a 43) cZ 40 fl1), (oa (a 22) cI (64 * cl) la), (oa (a 23) cI (64 * cl) lb), (oa (a 24) cI (64 * cl) lc), (oa (a 25) cI (64 * cl) ld)] t.heap ∧ va_D (va_A [(om k0 a (upd I0 26 (nI ln)) J0), (oa (a 5) cI 201 st), (oa (a 6) cZ 201 tn), (oa (a 1) cI 201 kd), (oa (a 11) cI 201 mn), (oa (a 12) cI 8040 cx), (oa (a 13) cI 8040 cy), (oa (a 32) cI 8 S0), (oa (a 40) cI 6 T0), (oa (a 29) cI 42 P0), (oa (a 30) cI 42 Q0), (oa (a 33) cI 42 ox), (oa (a 34) cI 42 oy), (oa (a 37) cZ 201 mt), (oa (a 38) cZ 201 wi), (oa (a 39) cZ 8040 ins), (oa (a 43) cZ 40 fl), (oa (a 22) cI (64 * cl) la), (oa (a 23) cI (64 * cl) lb), (oa (a 24) cI (64 * cl) lc), (oa (a 25) cI (64 * cl) ld)] sz) [(om k0 a (upd (upd (upd (upd I0 26 (nI ln)) 31 z9) 35 on1) 36 ok1) J0), (oa (a 5) cI 201 st), (oa (a 6) cZ 201 tn), (oa (a 1) cI 201 kd), (oa (a 11) cI 201 mn), (oa (a 12) cI 8040 cx), (oa (a 13) cI 8040 cy), (oa (a 32) cI 8 S1), (oa (a 40) cI 6 T1), (oa (a 29) cI 42 P1), (oa (a 30) cI 42 Q1), (oa (a 33) cI 42 ox1), (oa (a 34) cI 42 oy1), (oa (a 37) cZ 201 mt1), (oa (a 38) cZ 201 wi1), (oa (a 39) cZ 8040 ins1), (oa (a 43) cZ 40 fl1), (oa (a 22) cI (64 * cl) la), (oa (a 23) cI (64 * cl) lb), (oa (a 24) cI (64 * cl) lc), (oa (a 25) cI (64 * cl) ld)]) (va_A [(om k0 a (upd I0 26 (nI ln)) J0), (oa (a 5) cI 201 st), (oa (a 6) cZ 201 tn), (oa (a 1) cI 201 kd), (oa (a 11) cI 201 mn), (oa (a 12) cI 8040 cx), (oa (a 13) cI 8040 cy), (oa (a 32) cI 8 S0), (oa (a 40) cI 6 T0), (oa (a 29) cI 42 P0), (oa (a 30) cI 42 Q0), (oa (a 33) cI 42 ox), (oa (a 34) cI 42 oy), (oa (a 37) cZ 201 mt), (oa (a 38) cZ 201 wi), (oa (a 39) cZ 8040 ins), (oa (a 43) cZ 40 fl), (oa (a 22) cI (64 * cl) la), (oa (a 23) cI (64 * cl) lb), (oa (a 24) cI (64 * cl) lc), (oa (a 25) cI (64 * cl) ld)] sz)) 0 0 (va_A [(om k0 a (upd I0 26 (nI ln)) J0), (oa (a 5) cI 201 st), (oa (a 6) cZ 201 tn), (oa (a 1) cI 201 kd), (oa (a 11) cI 201 mn), (oa (a 12) cI 8040 cx), (oa (a 13) cI 8040 cy), (oa (a 32) cI 8 S0), (oa (a 40) cI 6 T0), (oa (a 29) cI 42 P0), (oa (a 30) cI 42 Q0), (oa (a 33) cI 42 ox), (oa (a 34) cI 42 oy), (oa (a 37) cZ 201 mt), (oa (a 38) cZ 201 wi), (oa (a 39) cZ 8040 ins), (oa (a 43) cZ 40 fl), (oa (a 22) cI (64 * cl) la), (oa (a 23) cI (64 * cl) lb), (oa (a 24) cI (64 * cl) lc), (oa (a 25) cI (64 * cl) ld)] sz) := by
  refine Met.ofW (cc := cX11_plain) (maxL := 8) (ret := (some .boolean)) rfl rfl ?_
  intro p e s m args below meth c s₁ B hml hv
  obtain ⟨rfl, hsz, hP, hK, hD0, hXN⟩ := hv
  have hx := B.exec
  have hb := B.bytes
  have hr := B.returns
  have hts0 := atoms_spec (ws := .code yX11_plain cX11_plain 8 (some .boolean) :: ws0) B.pre
  have hts : ∀ w9 ∈ ws0, w9.before ([.ref k0, .int (nI f), .long (jI ((L : Nat) : Int)), .int stp] : List Value).toArray s = true := fun w9 h => hts0 w9 (List.mem_cons_of_mem _ h)
  have hown : s.vm.findClass "ScaleShopModel" = some m.cls := findClass_of_methodNamed B.named
  have hlocks := B.notSynchronized
  subst hsz
  have hD := hD0.self (sz := s.heap.size)
  clear hD0
  generalize hAe : va_A [(om k0 a (upd I0 26 (nI ln)) J0), (oa (a 5) cI 201 st), (oa (a 6) cZ 201 tn), (oa (a 1) cI 201 kd), (oa (a 11) cI 201 mn), (oa (a 12) cI 8040 cx), (oa (a 13) cI 8040 cy), (oa (a 32) cI 8 S0), (oa (a 40) cI 6 T0), (oa (a 29) cI 42 P0), (oa (a 30) cI 42 Q0), (oa (a 33) cI 42 ox), (oa (a 34) cI 42 oy), (oa (a 37) cZ 201 mt), (oa (a 38) cZ 201 wi), (oa (a 39) cZ 8040 ins), (oa (a 43) cZ 40 fl), (oa (a 22) cI (64 * cl) la), (oa (a 23) cI (64 * cl) lb), (oa (a 24) cI (64 * cl) lc), (oa (a 25) cI (64 * cl) ld)] s.heap.size = A at hD ⊢
  have hA : ∀ q : Nat, s.heap.size ≤ q → A q := fun q h => by rw [← hAe]; exact Or.inr h
  clear hAe
  have hS : va_S A s.heap s.heap [] := va_S.rf
  have hP : va_P (dC, dI) classes [(om k0 a (upd I0 26 (nI ln)) J0), (oa (a 5) cI 201 st), (oa (a 6) cZ 201 tn), (oa (a 1) cI 201 kd), (oa (a 11) cI 201 mn), (oa (a 12) cI 8040 cx), (oa (a 13) cI 8040 cy), (oa (a 32) cI 8 S0), (oa (a 40) cI 6 T0), (oa (a 29) cI 42 P0), (oa (a 30) cI 42 Q0), (oa (a 33) cI 42 ox), (oa (a 34) cI 42 oy), (oa (a 37) cZ 201 mt), (oa (a 38) cZ 201 wi), (oa (a 39) cZ 8040 ins), (oa (a 43) cZ 40 fl), (oa (a 22) cI (64 * cl) la), (oa (a 23) cI (64 * cl) lb), (oa (a 24) cI (64 * cl) lc), (oa (a 25) cI (64 * cl) ld)] s.heap := hP
  obtain ⟨Q9, hQ9⟩ : ∃ Q9 : State → Prop, Q9 = MQ below (zQ (some (.int 0)) (fun t => ∃ (z9 : Int32), ∃ (on1 : Int32), ∃ (ok1 : Int32), ∃ (S1 : Nat → Int32), ∃ (T1 : Nat → Int32), ∃ (P1 : Nat → Int32), ∃ (Q1 : Nat → Int32), ∃ (ox1 : Nat → Int32), ∃ (oy1 : Nat → Int32), ∃ (mt1 : Nat → Int32), ∃ (wi1 : Nat → Int32), ∃ (ins1 : Nat → Int32), ∃ (fl1 : Nat → Int32), va_P (dC, dI) classes [(om k0 a (upd (upd (upd (upd I0 26 (nI ln)) 31 z9) 35 on1) 36 ok1) J0), (oa (a 5) cI 201 st), (oa (a 6) cZ 201 tn), (oa (a 1) cI 201 kd), (oa (a 11) cI 201 mn), (oa (a 12) cI 8040 cx), (oa (a 13) cI 8040 cy), (oa (a 32) cI 8 S1), (oa (a 40) cI 6 T1), (oa (a 29) cI 42 P1), (oa (a 30) cI 42 Q1), (oa (a 33) cI 42 ox1), (oa (a 34) cI 42 oy1), (oa (a 37) cZ 201 mt1), (oa (a 38) cZ 201 wi1), (oa (a 39) cZ 8040 ins1), (oa (a 43) cZ 40 fl1), (oa (a 22) cI (64 * cl) la), (oa (a 23) cI (64 * cl) lb), (oa (a 24) cI (64 * cl) lc), (oa (a 25) cI (64 * cl) ld)] t.heap ∧ va_D A [(om k0 a (upd (upd (upd (upd I0 26 (nI ln)) 31 z9) 35 on1) 36 ok1) J0), (oa (a 5) cI 201 st), (oa (a 6) cZ 201 tn), (oa (a 1) cI 201 kd), (oa (a 11) cI 201 mn), (oa (a 12) cI 8040 cx), (oa (a 13) cI 8040 cy), (oa (a 32) cI 8 S1), (oa (a 40) cI 6 T1), (oa (a 29) cI 42 P1), (oa (a 30) cI 42 Q1), (oa (a 33) cI 42 ox1), (oa (a 34) cI 42 oy1), (oa (a 37) cZ 201 mt1), (oa (a 38) cZ 201 wi1), (oa (a 39) cZ 8040 ins1), (oa (a 43) cZ 40 fl1), (oa (a 22) cI (64 * cl) la), (oa (a 23) cI (64 * cl) lb), (oa (a 24) cI (64 * cl) lc), (oa (a 25) cI (64 * cl) ld)]) A) ([.ref k0, .int (nI f), .long (jI ((L : Nat) : Int)), .int stp] : List Value).toArray s 0 0 A := ⟨_, rfl⟩
  rw [← hQ9]
  have hl := lv_entry ([.ref k0, .int (nI f), .long (jI ((L : Nat) : Int)), .int stp]) (n := 8) (Nat.le_of_ble_eq_true rfl)
  rw [lg_entry_eq]
  generalize (lg_sl ([.ref k0, .int (nI f), .long (jI ((L : Nat) : Int)), .int stp]) ++ List.replicate (8 - (lg_sl ([.ref k0, .int (nI f), .long (jI ((L : Nat) : Int)), .int stp])).length) Slot.unset).toArray = ls at hl ⊢
  have hl : lv_has ls 8 [(0, .ref k0), (1, .int (nI f)), (2, .long (jI ((L : Nat) : Int))), (4, .int stp)] := hl
  refine lv_iconst (v := 0) hx hb dX11_plain_0 rfl ?_
  refine lv_istore (lv' := [(5, .int 0), (0, .ref k0), (1, .int (nI f)), (2, .long (jI ((L : Nat) : Int))), (4, .int stp)]) hx hb dX11_plain_1 hl (Nat.le_of_ble_eq_true rfl) rfl (fun ls hl => ?_)
  have hl_3 : ∀ (n9 : Nat) (k : Nat) (S1 : Nat → Int32) (fl1 : Nat → Int32) (H : Heap) (locs : List Loc) (ls : Array Slot), n - k < n9 → (k ≤ n) → (∀ j, j < k → fl1 j = pI (¬ cnd ft st tn kd mn cx cy f n L j)) → va_P (dC, dI) classes [(om k0 a (upd I0 26 (nI ln)) J0), (oa (a 5) cI 201 st), (oa (a 6) cZ 201 tn), (oa (a 1) cI 201 kd), (oa (a 11) cI 201 mn), (oa (a 12) cI 8040 cx), (oa (a 13) cI 8040 cy), (oa (a 32) cI 8 S1), (oa (a 40) cI 6 T0), (oa (a 29) cI 42 P0), (oa (a 30) cI 42 Q0), (oa (a 33) cI 42 ox), (oa (a 34) cI 42 oy), (oa (a 37) cZ 201 mt), (oa (a 38) cZ 201 wi), (oa (a 39) cZ 8040 ins), (oa (a 43) cZ 40 fl1), (oa (a 22) cI (64 * cl) la), (oa (a 23) cI (64 * cl) lb), (oa (a 24) cI (64 * cl) lc), (oa (a 25) cI (64 * cl) ld)] H → va_D A [(om k0 a (upd I0 26 (nI ln)) J0), (oa (a 5) cI 201 st), (oa (a 6) cZ 201 tn), (oa (a 1) cI 201 kd), (oa (a 11) cI 201 mn), (oa (a 12) cI 8040 cx), (oa (a 13) cI 8040 cy), (oa (a 32) cI 8 S1), (oa (a 40) cI 6 T0), (oa (a 29) cI 42 P0), (oa (a 30) cI 42 Q0), (oa (a 33) cI 42 ox), (oa (a 34) cI 42 oy), (oa (a 37) cZ 201 mt), (oa (a 38) cZ 201 wi), (oa (a 39) cZ 8040 ins), (oa (a 43) cZ 40 fl1), (oa (a 22) cI (64 * cl) la), (oa (a 23) cI (64 * cl) lb), (oa (a 24) cI (64 * cl) lc), (oa (a 25) cI (64 * cl) ld)] → va_S A s.heap H locs → lv_has ls 8 [(5, .int (nI k)), (0, .ref k0), (1, .int (nI f)), (2, .long (jI ((L : Nat) : Int))), (4, .int stp)] → W p l e ((headSpec (.code yX11_plain cX11_plain 8 (some .boolean) :: ws0) ({ frames := 7, cells := 0, slots := 0, locals := 182 } : Room)).room) s m ([.ref k0, .int (nI f), .long (jI ((L : Nat) : Int)), .int stp] : List Value).toArray below meth c H locs 0 0 Q9 (F0 m 3 ls []) := by
    intro n9
    induction n9 with
    | zero => intro k S1 fl1 H locs ls hm; exact absurd hm (Nat.not_lt_zero _)
    | succ n9 ih_3 =>
      intro k S1 fl1 H locs ls hm hk hfl hP hD hS hl
      refine lv_iload hx hb dX11_plain_3 (lv_at hl 0 rfl) ?_
      refine lv_aload_n hx hb dX11_plain_5 rfl (lv_at hl 1 rfl) ?_
      refine va_get (D := (dC, dI)) (ci := 9) (v := .ref (a 11)) (C := RX11) (T := TX11) (N := 55) hx hb hts inX11 hown hK hP 0 rfl rfl 11 (Nat.le_of_ble_eq_true rfl) (hts _ mw_1170) (fun _ h9 => h9) rfl dX11_plain_6 ?_
      refine lv_iload_n hx hb dX11_plain_9 rfl (lv_at hl 2 rfl) ?_
      have b9_1 : f < 201 := by omega
      refine z_iald hx hb hK hP 4 0 rfl rfl (e := f) rfl b9_1 (Nat.le_of_ble_eq_true rfl) dX11_plain_10 ?_
      refine zz_i (v := nI n) (hm_f) ?_
      have b9_3 : k < 2147483648 := by omega
      have b9_4 : n < 2147483648 := by omega
      refine lv_icmp_ge (tgt := 54) hx hb dX11_plain_11 rfl (fun c_2 => ?_) (fun c_2 => ?_)
      · have c_2 : ((n : Nat) : Int) ≤ ((k : Nat) : Int) := zc_le (nI_toInt b9_4) (nI_toInt b9_3) c_2
        have hl_54 : ∀ (n9 : Nat) (FS : Nat → Prop) (z9 : Int32) (on1 : Int32) (ok1 : Int32) (S1 : Nat → Int32) (T1 : Nat → Int32) (P1 : Nat → Int32) (Q1 : Nat → Int32) (ox1 : Nat → Int32) (oy1 : Nat → Int32) (mt1 : Nat → Int32) (wi1 : Nat → Int32) (ins1 : Nat → Int32) (fl1 : Nat → Int32) (H : Heap) (locs : List Loc) (ls : Array Slot), cntP (fun j => ¬ FS j) n < n9 → (∀ j, j < n → fl1 j = pI (FS j)) → (∀ j, j < n → ¬ FS j → cnd ft st tn kd mn cx cy f n L j) → (∀ j, j < n → FS j → cnd ft st tn kd mn cx cy f n L j → ¬ lwP ft st tn kd mn cx cy f n j) → va_P (dC, dI) classes [(om k0 a (upd (upd (upd (upd I0 26 (nI ln)) 31 z9) 35 on1) 36 ok1) J0), (oa (a 5) cI 201 st), (oa (a 6) cZ 201 tn), (oa (a 1) cI 201 kd), (oa (a 11) cI 201 mn), (oa (a 12) cI 8040 cx), (oa (a 13) cI 8040 cy), (oa (a 32) cI 8 S1), (oa (a 40) cI 6 T1), (oa (a 29) cI 42 P1), (oa (a 30) cI 42 Q1), (oa (a 33) cI 42 ox1), (oa (a 34) cI 42 oy1), (oa (a 37) cZ 201 mt1), (oa (a 38) cZ 201 wi1), (oa (a 39) cZ 8040 ins1), (oa (a 43) cZ 40 fl1), (oa (a 22) cI (64 * cl) la), (oa (a 23) cI (64 * cl) lb), (oa (a 24) cI (64 * cl) lc), (oa (a 25) cI (64 * cl) ld)] H → va_D A [(om k0 a (upd (upd (upd (upd I0 26 (nI ln)) 31 z9) 35 on1) 36 ok1) J0), (oa (a 5) cI 201 st), (oa (a 6) cZ 201 tn), (oa (a 1) cI 201 kd), (oa (a 11) cI 201 mn), (oa (a 12) cI 8040 cx), (oa (a 13) cI 8040 cy), (oa (a 32) cI 8 S1), (oa (a 40) cI 6 T1), (oa (a 29) cI 42 P1), (oa (a 30) cI 42 Q1), (oa (a 33) cI 42 ox1), (oa (a 34) cI 42 oy1), (oa (a 37) cZ 201 mt1), (oa (a 38) cZ 201 wi1), (oa (a 39) cZ 8040 ins1), (oa (a 43) cZ 40 fl1), (oa (a 22) cI (64 * cl) la), (oa (a 23) cI (64 * cl) lb), (oa (a 24) cI (64 * cl) lc), (oa (a 25) cI (64 * cl) ld)] → va_S A s.heap H locs → lv_has ls 8 [(0, .ref k0), (1, .int (nI f)), (2, .long (jI ((L : Nat) : Int))), (4, .int stp)] → W p l e ((headSpec (.code yX11_plain cX11_plain 8 (some .boolean) :: ws0) ({ frames := 7, cells := 0, slots := 0, locals := 182 } : Room)).room) s m ([.ref k0, .int (nI f), .long (jI ((L : Nat) : Int)), .int stp] : List Value).toArray below meth c H locs 0 0 Q9 (F0 m 54 ls []) := by
          intro n9
          induction n9 with
          | zero => intro FS z9 on1 ok1 S1 T1 P1 Q1 ox1 oy1 mt1 wi1 ins1 fl1 H locs ls hm; exact absurd hm (Nat.not_lt_zero _)
          | succ n9 ih_54 =>
            intro FS z9 on1 ok1 S1 T1 P1 Q1 ox1 oy1 mt1 wi1 ins1 fl1 H locs ls hm hfs hfc hfd hP hD hS hl
            have hm54 := hm
            refine lv_iconst (v := (-1)) hx hb dX11_plain_54 rfl ?_
            refine lv_istore (lv' := [(5, .int (-1)), (0, .ref k0), (1, .int (nI f)), (2, .long (jI ((L : Nat) : Int))), (4, .int stp)]) hx hb dX11_plain_55 hl (Nat.le_of_ble_eq_true rfl) rfl (fun ls hl => ?_)
            refine lv_iconst (v := 0) hx hb dX11_plain_57 rfl ?_
            refine lv_istore (lv' := [(6, .int 0), (5, .int (-1)), (0, .ref k0), (1, .int (nI f)), (2, .long (jI ((L : Nat) : Int))), (4, .int stp)]) hx hb dX11_plain_58 hl (Nat.le_of_ble_eq_true rfl) rfl (fun ls hl => ?_)
            have hl_60 : ∀ (n9 : Nat) (k : Nat) (zb : Int32) (H : Heap) (locs : List Loc) (ls : Array Slot), n - k < n9 → (k ≤ n) → (bstS (trF cx cy f n) FS k zb) → va_P (dC, dI) classes [(om k0 a (upd (upd (upd (upd I0 26 (nI ln)) 31 z9) 35 on1) 36 ok1) J0), (oa (a 5) cI 201 st), (oa (a 6) cZ 201 tn), (oa (a 1) cI 201 kd), (oa (a 11) cI 201 mn), (oa (a 12) cI 8040 cx), (oa (a 13) cI 8040 cy), (oa (a 32) cI 8 S1), (oa (a 40) cI 6 T1), (oa (a 29) cI 42 P1), (oa (a 30) cI 42 Q1), (oa (a 33) cI 42 ox1), (oa (a 34) cI 42 oy1), (oa (a 37) cZ 201 mt1), (oa (a 38) cZ 201 wi1), (oa (a 39) cZ 8040 ins1), (oa (a 43) cZ 40 fl1), (oa (a 22) cI (64 * cl) la), (oa (a 23) cI (64 * cl) lb), (oa (a 24) cI (64 * cl) lc), (oa (a 25) cI (64 * cl) ld)] H → va_D A [(om k0 a (upd (upd (upd (upd I0 26 (nI ln)) 31 z9) 35 on1) 36 ok1) J0), (oa (a 5) cI 201 st), (oa (a 6) cZ 201 tn), (oa (a 1) cI 201 kd), (oa (a 11) cI 201 mn), (oa (a 12) cI 8040 cx), (oa (a 13) cI 8040 cy), (oa (a 32) cI 8 S1), (oa (a 40) cI 6 T1), (oa (a 29) cI 42 P1), (oa (a 30) cI 42 Q1), (oa (a 33) cI 42 ox1), (oa (a 34) cI 42 oy1), (oa (a 37) cZ 201 mt1), (oa (a 38) cZ 201 wi1), (oa (a 39) cZ 8040 ins1), (oa (a 43) cZ 40 fl1), (oa (a 22) cI (64 * cl) la), (oa (a 23) cI (64 * cl) lb), (oa (a 24) cI (64 * cl) lc), (oa (a 25) cI (64 * cl) ld)] → va_S A s.heap H locs → lv_has ls 8 [(6, .int (nI k)), (5, .int zb), (0, .ref k0), (1, .int (nI f)), (2, .long (jI ((L : Nat) : Int))), (4, .int stp)] → W p l e ((headSpec (.code yX11_plain cX11_plain 8 (some .boolean) :: ws0) ({ frames := 7, cells := 0, slots := 0, locals := 182 } : Room)).room) s m ([.ref k0, .int (nI f), .long (jI ((L : Nat) : Int)), .int stp] : List Value).toArray below meth c H locs 0 0 Q9 (F0 m 60 ls []) := by
              intro n9
              induction n9 with
              | zero => intro k zb H locs ls hm; exact absurd hm (Nat.not_lt_zero _)
              | succ n9 ih_60 =>
                intro k zb H locs ls hm hk hat hP hD hS hl
                refine lv_iload hx hb dX11_plain_60 (lv_at hl 0 rfl) ?_
                refine lv_aload_n hx hb dX11_plain_62 rfl (lv_at hl 2 rfl) ?_
                refine va_get (D := (dC, dI)) (ci := 9) (v := .ref (a 11)) (C := RX11) (T := TX11) (N := 55) hx hb hts inX11 hown hK hP 0 rfl rfl 11 (Nat.le_of_ble_eq_true rfl) (hts _ mw_1170) (fun _ h9 => h9) rfl dX11_plain_63 ?_
                refine lv_iload_n hx hb dX11_plain_66 rfl (lv_at hl 3 rfl) ?_
                refine z_iald hx hb hK hP 4 0 rfl rfl (e := f) rfl b9_1 (Nat.le_of_ble_eq_true rfl) dX11_plain_67 ?_
                refine zz_i (v := nI n) (hm_f) ?_
                have b9_6 : k < 2147483648 := by omega
                refine lv_icmp_ge (tgt := 115) hx hb dX11_plain_68 rfl (fun c_5 => ?_) (fun c_5 => ?_)
                · have c_5 : ((n : Nat) : Int) ≤ ((k : Nat) : Int) := zc_le (nI_toInt b9_4) (nI_toInt b9_6) c_5
                  refine lv_iload hx hb dX11_plain_115 (lv_at hl 1 rfl) ?_
                  refine lv_iconst (v := (-1)) hx hb dX11_plain_117 rfl ?_
                  refine lv_icmp_ne (tgt := 123) hx hb dX11_plain_118 rfl (fun c_7 => ?_) (fun c_7 => ?_)
                  · have c_7 : ¬ zb.toInt = (-1) := zc_ne rfl rfl c_7
                    have hkn : k = n := (by omega)
                    rw [hkn] at hat
                    obtain ⟨b9, hz9, hbk, hbF, hbm⟩ := bst_get hat (by omega)
                    have hcb := hfc b9 hbk hbF
                    refine lv_aload_n hx hb dX11_plain_123 rfl (lv_at hl 2 rfl) ?_
                    refine va_get (D := (dC, dI)) (ci := 9) (v := .ref (a 12)) (C := RX11) (T := TX11) (N := 55) hx hb hts inX11 hown hK hP 0 rfl rfl 12 (Nat.le_of_ble_eq_true rfl) (hts _ mw_1171) (fun _ h9 => h9) rfl dX11_plain_124 ?_
                    refine lv_bipush (v := 40) hx hb dX11_plain_127 rfl ?_
                    refine lv_iload_n hx hb dX11_plain_129 rfl (lv_at hl 3 rfl) ?_
                    refine lv_imul hx hb dX11_plain_130 ?_
                    refine zz_i (v := nI (40 * f)) (pk_mul 40 f) ?_
                    refine lv_iload hx hb dX11_plain_131 (lv_at hl 1 rfl) ?_
                    refine zz_i (v := nI b9) (hz9) ?_
                    refine lv_iadd hx hb dX11_plain_133 ?_
                    refine zz_i (v := nI (40 * f + b9)) (nI_add (40 * f) b9) ?_
                    have b9_8 : 40 * f + b9 < 8040 := by omega
                    refine z_iald hx hb hK hP 5 0 rfl rfl (e := 40 * f + b9) rfl b9_8 (Nat.le_of_ble_eq_true rfl) dX11_plain_134 ?_
                    refine lv_istore (lv' := [(6, .int (cx (40 * f + b9))), (5, .int zb), (0, .ref k0), (1, .int (nI f)), (2, .long (jI ((L : Nat) : Int))), (4, .int stp)]) hx hb dX11_plain_135 hl (Nat.le_of_ble_eq_true rfl) rfl (fun ls hl => ?_)
                    refine lv_aload_n hx hb dX11_plain_137 rfl (lv_at hl 2 rfl) ?_
                    refine va_get (D := (dC, dI)) (ci := 9) (v := .ref (a 13)) (C := RX11) (T := TX11) (N := 55) hx hb hts inX11 hown hK hP 0 rfl rfl 13 (Nat.le_of_ble_eq_true rfl) (hts _ mw_1172) (fun _ h9 => h9) rfl dX11_plain_138 ?_
                    refine lv_bipush (v := 40) hx hb dX11_plain_141 rfl ?_
                    refine lv_iload_n hx hb dX11_plain_143 rfl (lv_at hl 3 rfl) ?_
                    refine lv_imul hx hb dX11_plain_144 ?_
                    refine zz_i (v := nI (40 * f)) (pk_mul 40 f) ?_
                    refine lv_iload hx hb dX11_plain_145 (lv_at hl 1 rfl) ?_
                    refine zz_i (v := nI b9) (hz9) ?_
                    refine lv_iadd hx hb dX11_plain_147 ?_
                    refine zz_i (v := nI (40 * f + b9)) (nI_add (40 * f) b9) ?_
                    refine z_iald hx hb hK hP 6 0 rfl rfl (e := 40 * f + b9) rfl b9_8 (Nat.le_of_ble_eq_true rfl) dX11_plain_148 ?_
                    refine lv_istore (lv' := [(7, .int (cy (40 * f + b9))), (6, .int (cx (40 * f + b9))), (5, .int zb), (0, .ref k0), (1, .int (nI f)), (2, .long (jI ((L : Nat) : Int))), (4, .int stp)]) hx hb dX11_plain_149 hl (Nat.le_of_ble_eq_true rfl) rfl (fun ls hl => ?_)
                    refine lv_aload_n hx hb dX11_plain_151 rfl (lv_at hl 3 rfl) ?_
                    refine lv_iload_n hx hb dX11_plain_152 rfl (lv_at hl 4 rfl) ?_
                    refine lv_iload hx hb dX11_plain_153 (lv_at hl 2 rfl) ?_
                    refine zz_i (v := nI b9) (hz9) ?_
                    obtain ⟨hPc, hDc, hFc⟩ := zc_sub (wc := [(om k0 a (upd (upd (upd (upd I0 26 (nI ln)) 31 z9) 35 on1) 36 ok1) J0), (oa (a 5) cI 201 st), (oa (a 6) cZ 201 tn), (oa (a 1) cI 201 kd), (oa (a 11) cI 201 mn), (oa (a 12) cI 8040 cx), (oa (a 13) cI 8040 cy), (oa (a 32) cI 8 S1), (oa (a 40) cI 6 T1), (oa (a 29) cI 42 P1), (oa (a 30) cI 42 Q1), (oa (a 33) cI 42 ox1), (oa (a 34) cI 42 oy1), (oa (a 37) cZ 201 mt1), (oa (a 38) cZ 201 wi1), (oa (a 39) cZ 8040 ins1)]) hP hD hS hA [0, 1, 2, 3, 4, 5, 6, 7, 8, 9, 10, 11, 12, 13, 14, 15] rfl rfl
                    refine zcall (st1 := [.int (pI (lwP ft st tn kd mn cx cy f n b9))]) (va_runV (As := [.int (nI f), .int (nI b9)]) (rest := []) ⟨hx, hb, hml, hown, hts⟩ (k_M_goes l dC dI cI cZ cF H.size k0 a (upd (upd (upd (upd I0 26 (nI ln)) 31 z9) 35 on1) 36 ok1) J0 f n b9 ft st tn kd mn cx cy S1 T1 P1 Q1 ox1 oy1 mt1 wi1 ins1 (by first | with_reducible assumption | assumption) (by first | with_reducible assumption | omega) (by first | with_reducible assumption | omega) (by first | with_reducible assumption | assumption) (by first | with_reducible assumption | omega) (by first | with_reducible assumption | assumption) (hbk) (mGo_2 hcb.1 hbk hr3) (hwf)) (csV_200 hts rfl rfl ⟨Nat.le_of_ble_eq_true rfl, Nat.le_of_ble_eq_true rfl⟩) (zPV2 (q0 := 0) (ci := 9) hPc hDc hK hXN rfl rfl) rfl rfl hl.1 rfl (lv_room (Nat.le_of_ble_eq_true rfl)) dX11_plain_155 ⟨Nat.le_of_ble_eq_true rfl, Nat.le_of_ble_eq_true rfl⟩) hS hFc hFc rfl (fun t H locs ht hB hk1 hS => ?_)
                    obtain ⟨z2, mn2, cx2, cy2, S3, T3, P3, Q3, ox3, oy3, mt3, wi3, ins3, hyes, hnot, hP1, hD1⟩ := hB
                    rw [ht] at hP1
                    obtain ⟨hP, hD⟩ := zk (W2 := [(om k0 a (upd (upd (upd (upd I0 26 (nI ln)) 31 z2) 35 (nI n)) 36 (kd f)) J0), (oa (a 5) cI 201 st), (oa (a 6) cZ 201 tn), (oa (a 1) cI 201 kd), (oa (a 11) cI 201 mn2), (oa (a 12) cI 8040 cx2), (oa (a 13) cI 8040 cy2), (oa (a 32) cI 8 S3), (oa (a 40) cI 6 T3), (oa (a 29) cI 42 P3), (oa (a 30) cI 42 Q3), (oa (a 33) cI 42 ox3), (oa (a 34) cI 42 oy3), (oa (a 37) cZ 201 mt3), (oa (a 38) cZ 201 wi3), (oa (a 39) cZ 8040 ins3), (oa (a 43) cZ 40 fl1), (oa (a 22) cI (64 * cl) la), (oa (a 23) cI (64 * cl) lb), (oa (a 24) cI (64 * cl) lc), (oa (a 25) cI (64 * cl) ld)]) hP hD [0, 1, 2, 3, 4, 5, 6, 7, 8, 9, 10, 11, 12, 13, 14, 15] [16, 17, 18, 19, 20] [16, 17, 18, 19, 20] [0, 1, 2, 3, 4, 5, 6, 7, 8, 9, 10, 11, 12, 13, 14, 15] [5, 6, 7, 8, 9, 10, 11, 12, 13, 14, 15, 16, 17, 18, 19, 20, 0, 1, 2, 3, 4] 21 rfl rfl rfl rfl rfl rfl rfl rfl rfl hk1 hFc hP1 hD1
                    clear hk1 hPc hDc hFc hP1 hD1 ht
                    refine lv_if_eq (tgt := 174) hx hb dX11_plain_158 rfl (fun c_9 => ?_) (fun c_9 => ?_)
                    · have c_9 : ¬ (lwP ft st tn kd mn cx cy f n b9) := zp_0 c_9
                      have hno9 := hnot (by first | with_reducible assumption | assumption)
                      rw [hno9.1, hno9.2.1, hno9.2.2] at hP hD
                      refine lv_aload_n hx hb dX11_plain_174 rfl (lv_at hl 3 rfl) ?_
                      refine va_get (D := (dC, dI)) (ci := 9) (v := .ref (a 43)) (C := RX11) (T := TX11) (N := 55) hx hb hts inX11 hown hK hP 0 rfl rfl 43 (Nat.le_of_ble_eq_true rfl) (hts _ mw_1202) (fun _ h9 => h9) rfl dX11_plain_175 ?_
                      refine lv_iload hx hb dX11_plain_178 (lv_at hl 2 rfl) ?_
                      refine zz_i (v := nI b9) (hz9) ?_
                      refine lv_iconst (v := 1) hx hb dX11_plain_180 rfl ?_
                      have b9_10 : b9 < 40 := by omega
                      refine z_zast hx hb hK hP hD hS 16 1 rfl rfl (e := b9) (x := 1) rfl b9_10 (Nat.le_of_ble_eq_true rfl) (by decide) dX11_plain_181 (fun H locs hP hD hS => ?_)
                      obtain ⟨hP, hD⟩ : zPD (dC, dI) classes A [(om k0 a (upd (upd (upd (upd I0 26 (nI ln)) 31 z2) 35 (nI n)) 36 (kd f)) J0), (oa (a 5) cI 201 st), (oa (a 6) cZ 201 tn), (oa (a 1) cI 201 kd), (oa (a 11) cI 201 mn), (oa (a 12) cI 8040 cx), (oa (a 13) cI 8040 cy), (oa (a 32) cI 8 S3), (oa (a 40) cI 6 T3), (oa (a 29) cI 42 P3), (oa (a 30) cI 42 Q3), (oa (a 33) cI 42 ox3), (oa (a 34) cI 42 oy3), (oa (a 37) cZ 201 mt3), (oa (a 38) cZ 201 wi3), (oa (a 39) cZ 8040 ins3), (oa (a 43) cZ 40 (upd fl1 b9 1)), (oa (a 22) cI (64 * cl) la), (oa (a 23) cI (64 * cl) lb), (oa (a 24) cI (64 * cl) lc), (oa (a 25) cI (64 * cl) ld)] H := ⟨hP, hD⟩
                      refine lv_goto (tgt := 54) hx hb dX11_plain_182 rfl ?_
                      exact ih_54 (fun j => FS j ∨ j = b9) z2 (nI n) (kd f) S3 T3 P3 Q3 ox3 oy3 mt3 wi3 ins3 (upd fl1 b9 1) H locs ls (Nat.lt_of_lt_of_le (cntP_lt (P := fun j => ¬ FS j) (Q := fun j => ¬ (FS j ∨ j = b9)) (i := b9) (fun j h h2 => h (Or.inl h2)) hbk hbF (fun h => h (Or.inr rfl))) (Nat.le_of_lt_succ hm54)) (by intro j hj; unfold upd; by_cases h : j = b9; rw [if_pos h]; exact (zp_t (Or.inr h)).symm; rw [if_neg h, hfs j hj]; exact zp_iff ⟨Or.inl, fun h2 => h2.resolve_right h⟩) (fun j hj h => hfc j hj (fun h2 => h (Or.inl h2))) (fun j hj h h2 => h.elim (fun h3 => hfd j hj h3 h2) (fun h3 => by rw [h3]; assumption)) hP hD hS (lv_sub hl [3, 4, 5, 6] rfl)
                    · have c_9 : lwP ft st tn kd mn cx cy f n b9 := zp_1 c_9
                      have hbest : pBest ft st tn kd mn cx cy f n L b9 := ⟨hbk, hcb, by assumption, fun j hj hc hl => hbm j hj (fun h => hfd j hj h hc hl)⟩
                      exact absurd ⟨b9, hbest⟩ hnb
                  · have c_7 : zb.toInt = (-1) := zc_eq rfl rfl c_7
                    refine lv_iconst (v := 0) hx hb dX11_plain_121 rfl ?_
                    obtain ⟨hP9, hD9⟩ := zq_sub (wc := [(om k0 a (upd (upd (upd (upd I0 26 (nI ln)) 31 z9) 35 on1) 36 ok1) J0), (oa (a 5) cI 201 st), (oa (a 6) cZ 201 tn), (oa (a 1) cI 201 kd), (oa (a 11) cI 201 mn), (oa (a 12) cI 8040 cx), (oa (a 13) cI 8040 cy), (oa (a 32) cI 8 S1), (oa (a 40) cI 6 T1), (oa (a 29) cI 42 P1), (oa (a 30) cI 42 Q1), (oa (a 33) cI 42 ox1), (oa (a 34) cI 42 oy1), (oa (a 37) cZ 201 mt1), (oa (a 38) cZ 201 wi1), (oa (a 39) cZ 8040 ins1), (oa (a 43) cZ 40 fl1), (oa (a 22) cI (64 * cl) la), (oa (a 23) cI (64 * cl) lb), (oa (a 24) cI (64 * cl) lc), (oa (a 25) cI (64 * cl) ld)]) hP hD [0, 1, 2, 3, 4, 5, 6, 7, 8, 9, 10, 11, 12, 13, 14, 15, 16, 17, 18, 19, 20] rfl rfl
                    rw [hQ9]
                    exact W.zret (ty := .boolean) (v := 0) hx hb hr (rfl) (fun t ht hW => ⟨⟨rfl, z9, on1, ok1, S1, T1, P1, Q1, ox1, oy1, mt1, wi1, ins1, fl1, by rw [ht]; exact hP9, hD9⟩, hS.F ht⟩) hS.2.2 dX11_plain_122
                · have c_5 : ((k : Nat) : Int) < ((n : Nat) : Int) := zc_nle (nI_toInt b9_4) (nI_toInt b9_6) c_5
                  have hk9 : k < n := (by omega)
                  have hfk := hfs k hk9
                  have htB := trB hp_f hk9
                  refine lv_aload_n hx hb dX11_plain_71 rfl (lv_at hl 2 rfl) ?_
                  refine va_get (D := (dC, dI)) (ci := 9) (v := .ref (a 43)) (C := RX11) (T := TX11) (N := 55) hx hb hts inX11 hown hK hP 0 rfl rfl 43 (Nat.le_of_ble_eq_true rfl) (hts _ mw_1202) (fun _ h9 => h9) rfl dX11_plain_72 ?_
                  refine lv_iload hx hb dX11_plain_75 (lv_at hl 0 rfl) ?_
                  have b9_11 : k < 40 := by omega
                  refine z_zald hx hb hK hP 16 1 rfl rfl (e := k) rfl b9_11 (Nat.le_of_ble_eq_true rfl) dX11_plain_77 ?_
                  refine zz_i (v := pI (FS k)) (hfk) ?_
                  refine lv_if_ne (tgt := 109) hx hb dX11_plain_78 rfl (fun c_12 => ?_) (fun c_12 => ?_)
                  · have c_12 : FS k := zp_1 c_12
                    refine lv_iinc (v := nI (k + 1)) (lv' := [(6, .int (nI (k + 1))), (5, .int zb), (0, .ref k0), (1, .int (nI f)), (2, .long (jI ((L : Nat) : Int))), (4, .int stp)]) hx hb dX11_plain_109 hl (k := 0) rfl (nI_add k 1) (Nat.le_of_ble_eq_true rfl) rfl (fun ls hl => ?_)
                    refine lv_goto (tgt := 60) hx hb dX11_plain_112 rfl ?_
                    exact ih_60 (k + 1) zb H locs ls (by first | with_reducible assumption | omega) (by first | with_reducible assumption | omega) (by first | exact bst_f hat (by first | with_reducible assumption | assumption) | exact bst_n hat (by first | with_reducible assumption | omega) (by first | with_reducible assumption | omega) (by first | with_reducible assumption | assumption) | exact bst_l hz9 hbk hbF hbm (by first | with_reducible assumption | assumption) (by first | with_reducible assumption | omega) | exact bst_g hz9 hbk hbF hbm (by first | with_reducible assumption | omega)) hP hD hS (lv_sub hl [0, 1, 2, 3, 4, 5] rfl)
                  · have c_12 : ¬ (FS k) := zp_0 c_12
                    refine lv_iload hx hb dX11_plain_81 (lv_at hl 1 rfl) ?_
                    refine lv_iconst (v := (-1)) hx hb dX11_plain_83 rfl ?_
                    refine lv_icmp_eq (tgt := 105) hx hb dX11_plain_84 rfl (fun c_13 => ?_) (fun c_13 => ?_)
                    · have c_13 : zb.toInt = (-1) := zc_eq rfl rfl c_13
                      refine lv_iload hx hb dX11_plain_105 (lv_at hl 0 rfl) ?_
                      refine lv_istore (lv' := [(5, .int (nI k)), (6, .int (nI k)), (0, .ref k0), (1, .int (nI f)), (2, .long (jI ((L : Nat) : Int))), (4, .int stp)]) hx hb dX11_plain_107 hl (Nat.le_of_ble_eq_true rfl) rfl (fun ls hl => ?_)
                      refine lv_iinc (v := nI (k + 1)) (lv' := [(6, .int (nI (k + 1))), (5, .int (nI k)), (0, .ref k0), (1, .int (nI f)), (2, .long (jI ((L : Nat) : Int))), (4, .int stp)]) hx hb dX11_plain_109 hl (k := 1) rfl (nI_add k 1) (Nat.le_of_ble_eq_true rfl) rfl (fun ls hl => ?_)
                      refine lv_goto (tgt := 60) hx hb dX11_plain_112 rfl ?_
                      exact ih_60 (k + 1) (nI k) H locs ls (by first | with_reducible assumption | omega) (by first | with_reducible assumption | omega) (by first | exact bst_f hat (by first | with_reducible assumption | assumption) | exact bst_n hat (by first | with_reducible assumption | omega) (by first | with_reducible assumption | omega) (by first | with_reducible assumption | assumption) | exact bst_l hz9 hbk hbF hbm (by first | with_reducible assumption | assumption) (by first | with_reducible assumption | omega) | exact bst_g hz9 hbk hbF hbm (by first | with_reducible assumption | omega)) hP hD hS (lv_sub hl [0, 1, 2, 3, 4, 5] rfl)
                    · have c_13 : ¬ zb.toInt = (-1) := zc_ne rfl rfl c_13
                      obtain ⟨b9, hz9, hbk, hbF, hbm⟩ := bst_get hat (by omega)
                      have htb := trB (k := b9) hp_f (by omega)
                      refine lv_aload_n hx hb dX11_plain_87 rfl (lv_at hl 2 rfl) ?_
                      refine lv_iload_n hx hb dX11_plain_88 rfl (lv_at hl 3 rfl) ?_
                      refine lv_iload hx hb dX11_plain_89 (lv_at hl 0 rfl) ?_
                      obtain ⟨hPc, hDc, hFc⟩ := zc_sub (wc := [(om k0 a (upd (upd (upd (upd I0 26 (nI ln)) 31 z9) 35 on1) 36 ok1) J0), (oa (a 11) cI 201 mn), (oa (a 12) cI 8040 cx), (oa (a 13) cI 8040 cy)]) hP hD hS hA [0, 4, 5, 6] rfl rfl
                      refine zcall (st1 := [.long (jI ((Int.natAbs (cr (cF40 cx f (prv n k)).toInt (cF40 cy f (prv n k)).toInt (cF40 cx f k).toInt (cF40 cy f k).toInt (cF40 cx f (nxt n k)).toInt (cF40 cy f (nxt n k)).toInt) : Nat) : Int))]) (va_runV (As := [.int (nI f), .int (nI k)]) (rest := []) ⟨hx, hb, hml, hown, hts⟩ (k_M_triangle l dC dI cI cZ cF H.size k0 a (upd (upd (upd (upd I0 26 (nI ln)) 31 z9) 35 on1) 36 ok1) J0 f n k mn cx cy (by first | with_reducible assumption | omega) (by first | with_reducible assumption | assumption) (by first | with_reducible assumption | omega) (by first | with_reducible assumption | assumption) (by first | with_reducible assumption | omega)) (csV_202 hts rfl rfl ⟨Nat.le_of_ble_eq_true rfl, Nat.le_of_ble_eq_true rfl⟩) (zPV2 (q0 := 0) (ci := 9) hPc hDc hK hXN rfl rfl) rfl rfl hl.1 rfl (lv_room (Nat.le_of_ble_eq_true rfl)) dX11_plain_91 ⟨Nat.le_of_ble_eq_true rfl, Nat.le_of_ble_eq_true rfl⟩) hS hFc hFc rfl (fun t H locs ht hB hk1 hS => ?_)
                      obtain ⟨hP1, hD1⟩ := hB
                      rw [ht] at hP1
                      obtain ⟨hP, hD⟩ := zk (W2 := [(om k0 a (upd (upd (upd (upd I0 26 (nI ln)) 31 z9) 35 on1) 36 ok1) J0), (oa (a 5) cI 201 st), (oa (a 6) cZ 201 tn), (oa (a 1) cI 201 kd), (oa (a 11) cI 201 mn), (oa (a 12) cI 8040 cx), (oa (a 13) cI 8040 cy), (oa (a 32) cI 8 S1), (oa (a 40) cI 6 T1), (oa (a 29) cI 42 P1), (oa (a 30) cI 42 Q1), (oa (a 33) cI 42 ox1), (oa (a 34) cI 42 oy1), (oa (a 37) cZ 201 mt1), (oa (a 38) cZ 201 wi1), (oa (a 39) cZ 8040 ins1), (oa (a 43) cZ 40 fl1), (oa (a 22) cI (64 * cl) la), (oa (a 23) cI (64 * cl) lb), (oa (a 24) cI (64 * cl) lc), (oa (a 25) cI (64 * cl) ld)]) hP hD [0, 4, 5, 6] [1, 2, 3, 7, 8, 9, 10, 11, 12, 13, 14, 15, 16, 17, 18, 19, 20] [1, 2, 3, 7, 8, 9, 10, 11, 12, 13, 14, 15, 16, 17, 18, 19, 20] [0, 4, 5, 6] [17, 0, 1, 2, 18, 19, 20, 3, 4, 5, 6, 7, 8, 9, 10, 11, 12, 13, 14, 15, 16] 21 rfl rfl rfl rfl rfl rfl rfl rfl rfl hk1 hFc hP1 hD1
                      clear hk1 hPc hDc hFc hP1 hD1 ht
                      refine zz_l (v := jI ((trF cx cy f n k : Nat) : Int)) (rfl) ?_
                      refine lv_aload_n hx hb dX11_plain_94 rfl (lv_at hl 2 rfl) ?_
                      refine lv_iload_n hx hb dX11_plain_95 rfl (lv_at hl 3 rfl) ?_
                      refine lv_iload hx hb dX11_plain_96 (lv_at hl 1 rfl) ?_
                      refine zz_i (v := nI b9) (hz9) ?_
                      obtain ⟨hPc, hDc, hFc⟩ := zc_sub (wc := [(om k0 a (upd (upd (upd (upd I0 26 (nI ln)) 31 z9) 35 on1) 36 ok1) J0), (oa (a 11) cI 201 mn), (oa (a 12) cI 8040 cx), (oa (a 13) cI 8040 cy)]) hP hD hS hA [0, 4, 5, 6] rfl rfl
                      refine zcall (st1 := [.long (jI ((Int.natAbs (cr (cF40 cx f (prv n b9)).toInt (cF40 cy f (prv n b9)).toInt (cF40 cx f b9).toInt (cF40 cy f b9).toInt (cF40 cx f (nxt n b9)).toInt (cF40 cy f (nxt n b9)).toInt) : Nat) : Int)), .long (jI ((trF cx cy f n k : Nat) : Int))]) (va_runV (As := [.int (nI f), .int (nI b9)]) (rest := [.long (jI ((trF cx cy f n k : Nat) : Int))]) ⟨hx, hb, hml, hown, hts⟩ (k_M_triangle l dC dI cI cZ cF H.size k0 a (upd (upd (upd (upd I0 26 (nI ln)) 31 z9) 35 on1) 36 ok1) J0 f n b9 mn cx cy (by first | with_reducible assumption | omega) (by first | with_reducible assumption | assumption) (by first | with_reducible assumption | omega) (by first | with_reducible assumption | assumption) (by first | with_reducible assumption | omega)) (csV_202 hts rfl rfl ⟨Nat.le_of_ble_eq_true rfl, Nat.le_of_ble_eq_true rfl⟩) (zPV2 (q0 := 0) (ci := 9) hPc hDc hK hXN rfl rfl) rfl rfl hl.1 rfl (lv_room (Nat.le_of_ble_eq_true rfl)) dX11_plain_98 ⟨Nat.le_of_ble_eq_true rfl, Nat.le_of_ble_eq_true rfl⟩) hS hFc hFc rfl (fun t H locs ht hB hk1 hS => ?_)
                      obtain ⟨hP1, hD1⟩ := hB
                      rw [ht] at hP1
                      obtain ⟨hP, hD⟩ := zk (W2 := [(om k0 a (upd (upd (upd (upd I0 26 (nI ln)) 31 z9) 35 on1) 36 ok1) J0), (oa (a 5) cI 201 st), (oa (a 6) cZ 201 tn), (oa (a 1) cI 201 kd), (oa (a 11) cI 201 mn), (oa (a 12) cI 8040 cx), (oa (a 13) cI 8040 cy), (oa (a 32) cI 8 S1), (oa (a 40) cI 6 T1), (oa (a 29) cI 42 P1), (oa (a 30) cI 42 Q1), (oa (a 33) cI 42 ox1), (oa (a 34) cI 42 oy1), (oa (a 37) cZ 201 mt1), (oa (a 38) cZ 201 wi1), (oa (a 39) cZ 8040 ins1), (oa (a 43) cZ 40 fl1), (oa (a 22) cI (64 * cl) la), (oa (a 23) cI (64 * cl) lb), (oa (a 24) cI (64 * cl) lc), (oa (a 25) cI (64 * cl) ld)]) hP hD [0, 4, 5, 6] [1, 2, 3, 7, 8, 9, 10, 11, 12, 13, 14, 15, 16, 17, 18, 19, 20] [1, 2, 3, 7, 8, 9, 10, 11, 12, 13, 14, 15, 16, 17, 18, 19, 20] [0, 4, 5, 6] [17, 0, 1, 2, 18, 19, 20, 3, 4, 5, 6, 7, 8, 9, 10, 11, 12, 13, 14, 15, 16] 21 rfl rfl rfl rfl rfl rfl rfl rfl rfl hk1 hFc hP1 hD1
                      clear hk1 hPc hDc hFc hP1 hD1 ht
                      refine zz_l (v := jI ((trF cx cy f n b9 : Nat) : Int)) (rfl) ?_
                      refine W.lcmp hx hb dX11_plain_101 ?_
                      refine lv_if_ge (tgt := 109) hx hb dX11_plain_102 rfl (fun c_14 => ?_) (fun c_14 => ?_)
                      · have c_14 : ((trF cx cy f n b9 : Nat) : Int) ≤ ((trF cx cy f n k : Nat) : Int) := zl_ge (jI_toInt (by omega)) (jI_toInt (by omega)) c_14
                        refine lv_iinc (v := nI (k + 1)) (lv' := [(6, .int (nI (k + 1))), (5, .int zb), (0, .ref k0), (1, .int (nI f)), (2, .long (jI ((L : Nat) : Int))), (4, .int stp)]) hx hb dX11_plain_109 hl (k := 0) rfl (nI_add k 1) (Nat.le_of_ble_eq_true rfl) rfl (fun ls hl => ?_)
                        refine lv_goto (tgt := 60) hx hb dX11_plain_112 rfl ?_
                        exact ih_60 (k + 1) zb H locs ls (by first | with_reducible assumption | omega) (by first | with_reducible assumption | omega) (by first | exact bst_f hat (by first | with_reducible assumption | assumption) | exact bst_n hat (by first | with_reducible assumption | omega) (by first | with_reducible assumption | omega) (by first | with_reducible assumption | assumption) | exact bst_l hz9 hbk hbF hbm (by first | with_reducible assumption | assumption) (by first | with_reducible assumption | omega) | exact bst_g hz9 hbk hbF hbm (by first | with_reducible assumption | omega)) hP hD hS (lv_sub hl [0, 1, 2, 3, 4, 5] rfl)
                      · have c_14 : ((trF cx cy f n k : Nat) : Int) < ((trF cx cy f n b9 : Nat) : Int) := zl_nge (jI_toInt (by omega)) (jI_toInt (by omega)) c_14
                        refine lv_iload hx hb dX11_plain_105 (lv_at hl 0 rfl) ?_
                        refine lv_istore (lv' := [(5, .int (nI k)), (6, .int (nI k)), (0, .ref k0), (1, .int (nI f)), (2, .long (jI ((L : Nat) : Int))), (4, .int stp)]) hx hb dX11_plain_107 hl (Nat.le_of_ble_eq_true rfl) rfl (fun ls hl => ?_)
                        refine lv_iinc (v := nI (k + 1)) (lv' := [(6, .int (nI (k + 1))), (5, .int (nI k)), (0, .ref k0), (1, .int (nI f)), (2, .long (jI ((L : Nat) : Int))), (4, .int stp)]) hx hb dX11_plain_109 hl (k := 1) rfl (nI_add k 1) (Nat.le_of_ble_eq_true rfl) rfl (fun ls hl => ?_)
                        refine lv_goto (tgt := 60) hx hb dX11_plain_112 rfl ?_
                        exact ih_60 (k + 1) (nI k) H locs ls (by first | with_reducible assumption | omega) (by first | with_reducible assumption | omega) (by first | exact bst_f hat (by first | with_reducible assumption | assumption) | exact bst_n hat (by first | with_reducible assumption | omega) (by first | with_reducible assumption | omega) (by first | with_reducible assumption | assumption) | exact bst_l hz9 hbk hbF hbm (by first | with_reducible assumption | assumption) (by first | with_reducible assumption | omega) | exact bst_g hz9 hbk hbF hbm (by first | with_reducible assumption | omega)) hP hD hS (lv_sub hl [0, 1, 2, 3, 4, 5] rfl)
            exact hl_60 _ 0 (-1) H locs ls (Nat.lt_succ_self _) (by first | with_reducible assumption | omega) (bst_0 _ _) hP hD hS (lv_sub hl [0, 1, 2, 3, 4, 5] rfl)
        exact hl_54 _ (fun j => ¬ cnd ft st tn kd mn cx cy f n L j) (I0 31) (I0 35) (I0 36) S1 T0 P0 Q0 ox oy mt wi ins fl1 H locs ls (Nat.lt_succ_self _) (fun j hj => hfl j (by first | with_reducible assumption | omega)) (fun j hj h => Classical.not_not.mp h) (fun j hj h h2 => absurd h2 h) hP hD hS (lv_sub hl [1, 2, 3, 4] rfl)
      · have c_2 : ((k : Nat) : Int) < ((n : Nat) : Int) := zc_nle (nI_toInt b9_4) (nI_toInt b9_3) c_2
        have hk9 : k < n := (by omega)
        refine lv_aload_n hx hb dX11_plain_14 rfl (lv_at hl 1 rfl) ?_
        refine va_get (D := (dC, dI)) (ci := 9) (v := .ref (a 43)) (C := RX11) (T := TX11) (N := 55) hx hb hts inX11 hown hK hP 0 rfl rfl 43 (Nat.le_of_ble_eq_true rfl) (hts _ mw_1202) (fun _ h9 => h9) rfl dX11_plain_15 ?_
        refine lv_iload hx hb dX11_plain_18 (lv_at hl 0 rfl) ?_
        refine lv_aload_n hx hb dX11_plain_20 rfl (lv_at hl 1 rfl) ?_
        refine lv_iload_n hx hb dX11_plain_21 rfl (lv_at hl 2 rfl) ?_
        refine lv_iload hx hb dX11_plain_22 (lv_at hl 0 rfl) ?_
        obtain ⟨hPc, hDc, hFc⟩ := zc_sub (wc := [(om k0 a (upd I0 26 (nI ln)) J0), (oa (a 5) cI 201 st), (oa (a 6) cZ 201 tn), (oa (a 1) cI 201 kd), (oa (a 11) cI 201 mn), (oa (a 12) cI 8040 cx), (oa (a 13) cI 8040 cy), (oa (a 32) cI 8 S1)]) hP hD hS hA [0, 1, 2, 3, 4, 5, 6, 7] rfl rfl
        refine zcall (st1 := [.int (pI (mGo ft st tn kd mn cx cy f n k)), .int (nI k), .ref (a 43)]) (va_runV (As := [.int (nI f), .int (nI k)]) (rest := [.int (nI k), .ref (a 43)]) ⟨hx, hb, hml, hown, hts⟩ (k_M_mayGo l dC dI cI cZ cF H.size k0 a (upd I0 26 (nI ln)) J0 f n k ft st tn kd mn cx cy S1 (by first | with_reducible assumption | assumption) (by first | with_reducible assumption | omega) (by first | with_reducible assumption | omega) (by first | with_reducible assumption | assumption) (by first | with_reducible assumption | omega) (by first | with_reducible assumption | assumption) (by first | with_reducible assumption | omega) (by first | with_reducible assumption | assumption)) (csV_203 hts rfl rfl ⟨Nat.le_of_ble_eq_true rfl, Nat.le_of_ble_eq_true rfl⟩) (zPV2 (q0 := 0) (ci := 9) hPc hDc hK hXN rfl rfl) rfl rfl hl.1 rfl (lv_room (Nat.le_of_ble_eq_true rfl)) dX11_plain_24 ⟨Nat.le_of_ble_eq_true rfl, Nat.le_of_ble_eq_true rfl⟩) hS hFc hFc rfl (fun t H locs ht hB hk1 hS => ?_)
        obtain ⟨S2, hP1, hD1⟩ := hB
        rw [ht] at hP1
        obtain ⟨hP, hD⟩ := zk (W2 := [(om k0 a (upd I0 26 (nI ln)) J0), (oa (a 5) cI 201 st), (oa (a 6) cZ 201 tn), (oa (a 1) cI 201 kd), (oa (a 11) cI 201 mn), (oa (a 12) cI 8040 cx), (oa (a 13) cI 8040 cy), (oa (a 32) cI 8 S2), (oa (a 40) cI 6 T0), (oa (a 29) cI 42 P0), (oa (a 30) cI 42 Q0), (oa (a 33) cI 42 ox), (oa (a 34) cI 42 oy), (oa (a 37) cZ 201 mt), (oa (a 38) cZ 201 wi), (oa (a 39) cZ 8040 ins), (oa (a 43) cZ 40 fl1), (oa (a 22) cI (64 * cl) la), (oa (a 23) cI (64 * cl) lb), (oa (a 24) cI (64 * cl) lc), (oa (a 25) cI (64 * cl) ld)]) hP hD [0, 1, 2, 3, 4, 5, 6, 7] [8, 9, 10, 11, 12, 13, 14, 15, 16, 17, 18, 19, 20] [8, 9, 10, 11, 12, 13, 14, 15, 16, 17, 18, 19, 20] [0, 1, 2, 3, 4, 5, 6, 7] [13, 14, 15, 16, 17, 18, 19, 20, 0, 1, 2, 3, 4, 5, 6, 7, 8, 9, 10, 11, 12] 21 rfl rfl rfl rfl rfl rfl rfl rfl rfl hk1 hFc hP1 hD1
        clear hk1 hPc hDc hFc hP1 hD1 ht
        refine lv_if_eq (tgt := 42) hx hb dX11_plain_27 rfl (fun c_15 => ?_) (fun c_15 => ?_)
        · have c_15 : ¬ (mGo ft st tn kd mn cx cy f n k) := zp_0 c_15
          refine lv_iconst (v := 1) hx hb dX11_plain_42 rfl ?_
          refine lv_goto (tgt := 47) hx hb dX11_plain_43 rfl ?_
          refine zz_i (v := pI (¬ cnd ft st tn kd mn cx cy f n L k)) (by first | exact (zp_t (fun h => absurd h.1 (by first | with_reducible assumption | assumption))).symm | exact (zp_t (fun h => absurd h.2 (by omega))).symm | exact (zp_f (fun h => h ⟨by assumption, by omega⟩)).symm) ?_
          have b9_16 : k < 40 := by omega
          refine z_zast hx hb hK hP hD hS 16 1 rfl rfl (e := k) (x := pI (¬ cnd ft st tn kd mn cx cy f n L k)) rfl b9_16 (Nat.le_of_ble_eq_true rfl) (zp_and _) dX11_plain_47 (fun H locs hP hD hS => ?_)
          obtain ⟨hP, hD⟩ : zPD (dC, dI) classes A [(om k0 a (upd I0 26 (nI ln)) J0), (oa (a 5) cI 201 st), (oa (a 6) cZ 201 tn), (oa (a 1) cI 201 kd), (oa (a 11) cI 201 mn), (oa (a 12) cI 8040 cx), (oa (a 13) cI 8040 cy), (oa (a 32) cI 8 S2), (oa (a 40) cI 6 T0), (oa (a 29) cI 42 P0), (oa (a 30) cI 42 Q0), (oa (a 33) cI 42 ox), (oa (a 34) cI 42 oy), (oa (a 37) cZ 201 mt), (oa (a 38) cZ 201 wi), (oa (a 39) cZ 8040 ins), (oa (a 43) cZ 40 (upd fl1 k (pI (¬ cnd ft st tn kd mn cx cy f n L k)))), (oa (a 22) cI (64 * cl) la), (oa (a 23) cI (64 * cl) lb), (oa (a 24) cI (64 * cl) lc), (oa (a 25) cI (64 * cl) ld)] H := ⟨hP, hD⟩
          refine lv_iinc (v := nI (k + 1)) (lv' := [(5, .int (nI (k + 1))), (0, .ref k0), (1, .int (nI f)), (2, .long (jI ((L : Nat) : Int))), (4, .int stp)]) hx hb dX11_plain_48 hl (k := 0) rfl (nI_add k 1) (Nat.le_of_ble_eq_true rfl) rfl (fun ls hl => ?_)
          refine lv_goto (tgt := 3) hx hb dX11_plain_51 rfl ?_
          exact ih_3 (k + 1) S2 (upd fl1 k (pI (¬ cnd ft st tn kd mn cx cy f n L k))) H locs ls (by first | with_reducible assumption | omega) (by first | with_reducible assumption | omega) (by intro j hj; rcases Nat.lt_or_ge j k with h | h; simp only [upd, if_neg (show j ≠ k by omega)]; exact hfl j h; rw [show j = k by omega]; simp only [upd, if_true]) hP hD hS (lv_sub hl [0, 1, 2, 3, 4] rfl)
        · have c_15 : mGo ft st tn kd mn cx cy f n k := zp_1 c_15
          refine lv_aload_n hx hb dX11_plain_30 rfl (lv_at hl 1 rfl) ?_
          refine lv_iload_n hx hb dX11_plain_31 rfl (lv_at hl 2 rfl) ?_
          refine lv_iload hx hb dX11_plain_32 (lv_at hl 0 rfl) ?_
          obtain ⟨hPc, hDc, hFc⟩ := zc_sub (wc := [(om k0 a (upd I0 26 (nI ln)) J0), (oa (a 11) cI 201 mn), (oa (a 12) cI 8040 cx), (oa (a 13) cI 8040 cy)]) hP hD hS hA [0, 4, 5, 6] rfl rfl
          refine zcall (st1 := [.long (jI ((Int.natAbs (cr (cF40 cx f (prv n k)).toInt (cF40 cy f (prv n k)).toInt (cF40 cx f k).toInt (cF40 cy f k).toInt (cF40 cx f (nxt n k)).toInt (cF40 cy f (nxt n k)).toInt) : Nat) : Int)), .int (nI k), .ref (a 43)]) (va_runV (As := [.int (nI f), .int (nI k)]) (rest := [.int (nI k), .ref (a 43)]) ⟨hx, hb, hml, hown, hts⟩ (k_M_triangle l dC dI cI cZ cF H.size k0 a (upd I0 26 (nI ln)) J0 f n k mn cx cy (by first | with_reducible assumption | omega) (by first | with_reducible assumption | assumption) (by first | with_reducible assumption | omega) (by first | with_reducible assumption | assumption) (by first | with_reducible assumption | omega)) (csV_202 hts rfl rfl ⟨Nat.le_of_ble_eq_true rfl, Nat.le_of_ble_eq_true rfl⟩) (zPV2 (q0 := 0) (ci := 9) hPc hDc hK hXN rfl rfl) rfl rfl hl.1 rfl (lv_room (Nat.le_of_ble_eq_true rfl)) dX11_plain_34 ⟨Nat.le_of_ble_eq_true rfl, Nat.le_of_ble_eq_true rfl⟩) hS hFc hFc rfl (fun t H locs ht hB hk1 hS => ?_)
          obtain ⟨hP1, hD1⟩ := hB
          rw [ht] at hP1
          obtain ⟨hP, hD⟩ := zk (W2 := [(om k0 a (upd I0 26 (nI ln)) J0), (oa (a 5) cI 201 st), (oa (a 6) cZ 201 tn), (oa (a 1) cI 201 kd), (oa (a 11) cI 201 mn), (oa (a 12) cI 8040 cx), (oa (a 13) cI 8040 cy), (oa (a 32) cI 8 S2), (oa (a 40) cI 6 T0), (oa (a 29) cI 42 P0), (oa (a 30) cI 42 Q0), (oa (a 33) cI 42 ox), (oa (a 34) cI 42 oy), (oa (a 37) cZ 201 mt), (oa (a 38) cZ 201 wi), (oa (a 39) cZ 8040 ins), (oa (a 43) cZ 40 fl1), (oa (a 22) cI (64 * cl) la), (oa (a 23) cI (64 * cl) lb), (oa (a 24) cI (64 * cl) lc), (oa (a 25) cI (64 * cl) ld)]) hP hD [0, 4, 5, 6] [1, 2, 3, 7, 8, 9, 10, 11, 12, 13, 14, 15, 16, 17, 18, 19, 20] [1, 2, 3, 7, 8, 9, 10, 11, 12, 13, 14, 15, 16, 17, 18, 19, 20] [0, 4, 5, 6] [17, 0, 1, 2, 18, 19, 20, 3, 4, 5, 6, 7, 8, 9, 10, 11, 12, 13, 14, 15, 16] 21 rfl rfl rfl rfl rfl rfl rfl rfl rfl hk1 hFc hP1 hD1
          clear hk1 hPc hDc hFc hP1 hD1 ht
          refine zz_l (v := jI ((trF cx cy f n k : Nat) : Int)) (rfl) ?_
          have htB := trB hp_f hk9
          refine lv_lload_n hx hb dX11_plain_37 rfl (lv_at hl 3 rfl) ?_
          refine W.lcmp hx hb dX11_plain_38 ?_
          refine lv_if_le (tgt := 46) hx hb dX11_plain_39 rfl (fun c_17 => ?_) (fun c_17 => ?_)
          · have c_17 : ((trF cx cy f n k : Nat) : Int) ≤ ((L : Nat) : Int) := zl_le (jI_toInt (by omega)) (jI_toInt (by omega)) c_17
            refine lv_iconst (v := 0) hx hb dX11_plain_46 rfl ?_
            refine zz_i (v := pI (¬ cnd ft st tn kd mn cx cy f n L k)) (by first | exact (zp_t (fun h => absurd h.1 (by first | with_reducible assumption | assumption))).symm | exact (zp_t (fun h => absurd h.2 (by omega))).symm | exact (zp_f (fun h => h ⟨by assumption, by omega⟩)).symm) ?_
            have b9_18 : k < 40 := by omega
            refine z_zast hx hb hK hP hD hS 16 1 rfl rfl (e := k) (x := pI (¬ cnd ft st tn kd mn cx cy f n L k)) rfl b9_18 (Nat.le_of_ble_eq_true rfl) (zp_and _) dX11_plain_47 (fun H locs hP hD hS => ?_)
            obtain ⟨hP, hD⟩ : zPD (dC, dI) classes A [(om k0 a (upd I0 26 (nI ln)) J0), (oa (a 5) cI 201 st), (oa (a 6) cZ 201 tn), (oa (a 1) cI 201 kd), (oa (a 11) cI 201 mn), (oa (a 12) cI 8040 cx), (oa (a 13) cI 8040 cy), (oa (a 32) cI 8 S2), (oa (a 40) cI 6 T0), (oa (a 29) cI 42 P0), (oa (a 30) cI 42 Q0), (oa (a 33) cI 42 ox), (oa (a 34) cI 42 oy), (oa (a 37) cZ 201 mt), (oa (a 38) cZ 201 wi), (oa (a 39) cZ 8040 ins), (oa (a 43) cZ 40 (upd fl1 k (pI (¬ cnd ft st tn kd mn cx cy f n L k)))), (oa (a 22) cI (64 * cl) la), (oa (a 23) cI (64 * cl) lb), (oa (a 24) cI (64 * cl) lc), (oa (a 25) cI (64 * cl) ld)] H := ⟨hP, hD⟩
            refine lv_iinc (v := nI (k + 1)) (lv' := [(5, .int (nI (k + 1))), (0, .ref k0), (1, .int (nI f)), (2, .long (jI ((L : Nat) : Int))), (4, .int stp)]) hx hb dX11_plain_48 hl (k := 0) rfl (nI_add k 1) (Nat.le_of_ble_eq_true rfl) rfl (fun ls hl => ?_)
            refine lv_goto (tgt := 3) hx hb dX11_plain_51 rfl ?_
            exact ih_3 (k + 1) S2 (upd fl1 k (pI (¬ cnd ft st tn kd mn cx cy f n L k))) H locs ls (by first | with_reducible assumption | omega) (by first | with_reducible assumption | omega) (by intro j hj; rcases Nat.lt_or_ge j k with h | h; simp only [upd, if_neg (show j ≠ k by omega)]; exact hfl j h; rw [show j = k by omega]; simp only [upd, if_true]) hP hD hS (lv_sub hl [0, 1, 2, 3, 4] rfl)
          · have c_17 : ((L : Nat) : Int) < ((trF cx cy f n k : Nat) : Int) := zl_nle (jI_toInt (by omega)) (jI_toInt (by omega)) c_17
            refine lv_iconst (v := 1) hx hb dX11_plain_42 rfl ?_
            refine lv_goto (tgt := 47) hx hb dX11_plain_43 rfl ?_
            refine zz_i (v := pI (¬ cnd ft st tn kd mn cx cy f n L k)) (by first | exact (zp_t (fun h => absurd h.1 (by first | with_reducible assumption | assumption))).symm | exact (zp_t (fun h => absurd h.2 (by omega))).symm | exact (zp_f (fun h => h ⟨by assumption, by omega⟩)).symm) ?_
            have b9_19 : k < 40 := by omega
            refine z_zast hx hb hK hP hD hS 16 1 rfl rfl (e := k) (x := pI (¬ cnd ft st tn kd mn cx cy f n L k)) rfl b9_19 (Nat.le_of_ble_eq_true rfl) (zp_and _) dX11_plain_47 (fun H locs hP hD hS => ?_)
            obtain ⟨hP, hD⟩ : zPD (dC, dI) classes A [(om k0 a (upd I0 26 (nI ln)) J0), (oa (a 5) cI 201 st), (oa (a 6) cZ 201 tn), (oa (a 1) cI 201 kd), (oa (a 11) cI 201 mn), (oa (a 12) cI 8040 cx), (oa (a 13) cI 8040 cy), (oa (a 32) cI 8 S2), (oa (a 40) cI 6 T0), (oa (a 29) cI 42 P0), (oa (a 30) cI 42 Q0), (oa (a 33) cI 42 ox), (oa (a 34) cI 42 oy), (oa (a 37) cZ 201 mt), (oa (a 38) cZ 201 wi), (oa (a 39) cZ 8040 ins), (oa (a 43) cZ 40 (upd fl1 k (pI (¬ cnd ft st tn kd mn cx cy f n L k)))), (oa (a 22) cI (64 * cl) la), (oa (a 23) cI (64 * cl) lb), (oa (a 24) cI (64 * cl) lc), (oa (a 25) cI (64 * cl) ld)] H := ⟨hP, hD⟩
            refine lv_iinc (v := nI (k + 1)) (lv' := [(5, .int (nI (k + 1))), (0, .ref k0), (1, .int (nI f)), (2, .long (jI ((L : Nat) : Int))), (4, .int stp)]) hx hb dX11_plain_48 hl (k := 0) rfl (nI_add k 1) (Nat.le_of_ble_eq_true rfl) rfl (fun ls hl => ?_)
            refine lv_goto (tgt := 3) hx hb dX11_plain_51 rfl ?_
            exact ih_3 (k + 1) S2 (upd fl1 k (pI (¬ cnd ft st tn kd mn cx cy f n L k))) H locs ls (by first | with_reducible assumption | omega) (by first | with_reducible assumption | omega) (by intro j hj; rcases Nat.lt_or_ge j k with h | h; simp only [upd, if_neg (show j ≠ k by omega)]; exact hfl j h; rw [show j = k by omega]; simp only [upd, if_true]) hP hD hS (lv_sub hl [0, 1, 2, 3, 4] rfl)
  exact hl_3 _ 0 S0 fl s.heap [] ls (Nat.lt_succ_self _) (by first | with_reducible assumption | omega) (by intro j hj; omega) hP hD hS (lv_sub hl [0, 1, 2, 3, 4] rfl)
end
section
set_option maxHeartbeats 4000000 in
set_option maxRecDepth 100000 in
theorem k_M_plainAll (l : Launch) (dC : Nat → ClassId) (dI : Nat → Nat → Nat) (cI cZ cF : ClassId) (sz : Nat) (k0 : Nat) (a : Nat → Nat) (I0 : Nat → Int32) (J0 : Nat → Int64) (f : Nat) (n : Nat) (L : Nat) (ft : Nat) (ln : Nat) (cl : Nat) (mm9 : Nat) (nn1 : Nat) (stp : Int32) (st : Nat → Int32) (tn : Nat → Int32) (kd : Nat → Int32) (mn : Nat → Int32) (cx : Nat → Int32) (cy : Nat → Int32) (S0 : Nat → Int32) (T0 : Nat → Int32) (P0 : Nat → Int32) (Q0 : Nat → Int32) (ox : Nat → Int32) (oy : Nat → Int32) (mt : Nat → Int32) (wi : Nat → Int32) (ins : Nat → Int32) (fl : Nat → Int32) (la : Nat → Int32) (lb : Nat → Int32) (lc : Nat → Int32) (ld : Nat → Int32) (mn1 : Nat → Int32) (cx1 : Nat → Int32) (cy1 : Nat → Int32) (hft : I0 0 = nI ft) (h200 : ft ≤ 200) (hf_f : f ≤ 200) (hL : L ≤ 2147483647) (hpi : plI ft st tn kd f mn cx cy n) (hfin : plN ft st tn kd f L mm9 mn cx cy n mn1 cx1 cy1 nn1) (hclm : dlN mm9 cl ln ≤ 100000) (hlc : ln ≤ 64 * cl) (hcl1 : 1 ≤ cl) (hmb : mm9 ≤ 40) : Met l yX11_plainAll (.code yX11_plainAll cX11_plainAll 5 (some .int) :: ws0) ({ frames := 8, cells := 4 * (dlN mm9 cl ln - cl), slots := 512 * (dlN mm9 cl ln - cl), locals := 209 } : Room) (va_Pc [.ref k0, .int (nI f), .int (nI L), .int stp] (zPre (dC, dI) classes (zTy cI cZ cF) [(om k0 a (upd I0 26 (nI ln)) J0), (oa (a 5) cI 201 st), (oa (a 6) cZ 201 tn), (oa (a 1) cI 201 kd), (oa (a 11) cI 201 mn), (oa (a 12) cI 8040 cx), (oa (a 13) cI 8040 cy), (oa (a 32) cI 8 S0), (oa (a 40) cI 6 T0), (oa (a 29) cI 42 P0), (oa (a 30) cI 42 Q0), (oa (a 33) cI 42 ox), (oa (a 34) cI 42 oy), (oa (a 37) cZ 201 mt), (oa (a 38) cZ 201 wi), (oa (a 39) cZ 8040 ins), (oa (a 43) cZ 40 fl), (oa (a 22) cI (64 * cl) la), (oa (a 23) cI (64 * cl) lb), (oa (a 24) cI (64 * cl) lc), (oa (a 25) cI (64 * cl) ld)] sz zXN)) (zQ (some (.int (nI mm9))) (fun t => ∃ (z9 : Int32), ∃ (on1 : Int32), ∃ (ok1 : Int32), ∃ (S1 : Nat → Int32), ∃ (T1 : Nat → Int32), ∃ (P1 : Nat → Int32), ∃ (Q1 : Nat → Int32), ∃ (ox1 : Nat → Int32), ∃ (oy1 : Nat → Int32), ∃ (mt1 : Nat → Int32), ∃ (wi1 : Nat → Int32), ∃ (ins1 : Nat → Int32), ∃ (fl1 : Nat → Int32), ∃ (bl0 : Nat), ∃ (bl1 : Nat), ∃ (bl2 : Nat), ∃ (bl3 : Nat), ∃ (la1 : Nat → Int32), ∃ (lb1 : Nat → Int32), ∃ (lc1 : Nat → Int32), ∃ (ld1 : Nat → Int32), ((∀ j, j < ln → pl (lb j) ∧ pl (lc j)) → ∀ j, j < ln + mm9 → pl (lb1 j) ∧ pl (lc1 j)) ∧ va_P (dC, dI) classes [(om k0 (va_up (va_up (va_up (va_up a 22 bl0) 23 bl1) 24 bl2) 25 bl3) (upd (upd (upd (upd I0 26 (nI (ln + mm9))) 31 z9) 35 on1) 36 ok1) J0), (oa (a 5) cI 201 st), (oa (a 6) cZ 201 tn), (oa (a 1) cI 201 kd), (oa (a 11) cI 201 mn1), (oa (a 12) cI 8040 cx1), (oa (a 13) cI 8040 cy1), (oa (a 32) cI 8 S1), (oa (a 40) cI 6 T1), (oa (a 29) cI 42 P1), (oa (a 30) cI 42 Q1), (oa (a 33) cI 42 ox1), (oa (a 34) cI 42 oy1), (oa (a 37) cZ 201 mt1), (oa (a 38) cZ 201 wi1), (oa (a 39) cZ 8040 ins1), (oa (a 43) cZ 40 fl1), (oa bl0 cI (64 * (dlN mm9 cl ln)) la1), (oa bl1 cI (64 * (dlN mm9 cl ln)) lb1), (oa bl2 cI (64 * (dlN mm9 cl ln)) lc1), (oa bl3 cI (64 * (dlN mm9 cl ln)) ld1)] t.heap ∧ va_D (va_A [(om k0 a (upd I0 26 (nI ln)) J0), (oa (a 5) cI 201 st), (oa (a 6) cZ 201 tn), (oa (a 1) cI 201 kd), (oa (a 11) cI 201 mn), (oa (a 12) cI 8040 cx), (oa (a 13) cI 8040 cy), (oa (a 32) cI 8 S0), (oa (a 40) cI 6 T0), (oa (a 29) cI 42 P0), (oa (a 30) cI 42 Q0), (oa (a 33) cI 42 ox), (oa (a 34) cI 42 oy), (oa (a 37) cZ 201 mt), (oa (a 38) cZ 201 wi), (oa (a 39) cZ 8040 ins), (oa (a 43) cZ 40 fl), (oa (a 22) cI (64 * cl) la), (oa (a 23) cI (64 * cl) lb), (oa (a 24) cI (64 * cl) lc), (oa (a 25) cI (64 * cl) ld)] sz) [(om k0 (va_up (va_up (va_up (va_up a 22 bl0) 23 bl1) 24 bl2) 25 bl3) (upd (upd (upd (upd I0 26 (nI (ln + mm9))) 31 z9) 35 on1) 36 ok1) J0), (oa (a 5) cI 201 st), (oa (a 6) cZ 201 tn), (oa (a 1) cI 201 kd), (oa (a 11) cI 201 mn1), (oa (a 12) cI 8040 cx1), (oa (a 13) cI 8040 cy1), (oa (a 32) cI 8 S1), (oa (a 40) cI 6 T1), (oa (a 29) cI 42 P1), (oa (a 30) cI 42 Q1), (oa (a 33) cI 42 ox1), (oa (a 34) cI 42 oy1), (oa (a 37) cZ 201 mt1), (oa (a 38) cZ 201 wi1), (oa (a 39) cZ 8040 ins1), (oa (a 43) cZ 40 fl1), (oa bl0 cI (64 * (dlN mm9 cl ln)) la1), (oa bl1 cI (64 * (dlN mm9 cl ln)) lb1), (oa bl2 cI (64 * (dlN mm9 cl ln)) lc1), (oa bl3 cI (64 * (dlN mm9 cl ln)) ld1)]) (va_A [(om k0 a (upd I0 26 (nI ln)) J0), (oa (a 5) cI 201 st), (oa (a 6) cZ 201 tn), (oa (a 1) cI 201 kd), (oa (a 11) cI 201 mn), (oa (a 12) cI 8040 cx), (oa (a 13) cI 8040 cy), (oa (a 32) cI 8 S0), (oa (a 40) cI 6 T0), (oa (a 29) cI 42 P0), (oa (a 30) cI 42 Q0), (oa (a 33) cI 42 ox), (oa (a 34) cI 42 oy), (oa (a 37) cZ 201 mt), (oa (a 38) cZ 201 wi), (oa (a 39) cZ 8040 ins), (oa (a 43) cZ 40 fl), (oa (a 22) cI (64 * cl) la), (oa (a 23) cI (64 * cl) lb), (oa (a 24) cI (64 * cl) lc), (oa (a 25) cI (64 * cl) ld)] sz)) (4 * (dlN mm9 cl ln - cl)) (512 * (dlN mm9 cl ln - cl)) (va_A [(om k0 a (upd I0 26 (nI ln)) J0), (oa (a 5) cI 201 st), (oa (a 6) cZ 201 tn), (oa (a 1) cI 201 kd), (oa (a 11) cI 201 mn), (oa (a 12) cI 8040 cx), (oa (a 13) cI 8040 cy), (oa (a 32) cI 8 S0), (oa (a 40) cI 6 T0), (oa (a 29) cI 42 P0), (oa (a 30) cI 42 Q0), (oa (a 33) cI 42 ox), (oa (a 34) cI 42 oy), (oa (a 37) cZ 201 mt), (oa (a 38) cZ 201 wi), (oa (a 39) cZ 8040 ins), (oa (a 43) cZ 40 fl), (oa (a 22) cI (64 * cl) la), (oa (a 23) cI (64 * cl) lb), (oa (a 24) cI (64 * cl) lc), (oa (a 25) cI (64 * cl) ld)] sz) := by
  refine Met.ofW (cc := cX11_plainAll) (maxL := 5) (ret := (some .int)) rfl rfl ?_
  intro p e s m args below meth c s₁ B hml hv
  obtain ⟨rfl, hsz, hP, hK, hD0, hXN⟩ := hv
  have hx := B.exec
  have hb := B.bytes
  have hr := B.returns
  have hts0 := atoms_spec (ws := .code yX11_plainAll cX11_plainAll 5 (some .int) :: ws0) B.pre
  have hts : ∀ w9 ∈ ws0, w9.before ([.ref k0, .int (nI f), .int (nI L), .int stp] : List Value).toArray s = true := fun w9 h => hts0 w9 (List.mem_cons_of_mem _ h)
  have hown : s.vm.findClass "ScaleShopModel" = some m.cls := findClass_of_methodNamed B.named
  have hlocks := B.notSynchronized
  subst hsz
  have hD := hD0.self (sz := s.heap.size)
  clear hD0
  generalize hAe : va_A [(om k0 a (upd I0 26 (nI ln)) J0), (oa (a 5) cI 201 st), (oa (a 6) cZ 201 tn), (oa (a 1) cI 201 kd), (oa (a 11) cI 201 mn), (oa (a 12) cI 8040 cx), (oa (a 13) cI 8040 cy), (oa (a 32) cI 8 S0), (oa (a 40) cI 6 T0), (oa (a 29) cI 42 P0), (oa (a 30) cI 42 Q0), (oa (a 33) cI 42 ox), (oa (a 34) cI 42 oy), (oa (a 37) cZ 201 mt), (oa (a 38) cZ 201 wi), (oa (a 39) cZ 8040 ins), (oa (a 43) cZ 40 fl), (oa (a 22) cI (64 * cl) la), (oa (a 23) cI (64 * cl) lb), (oa (a 24) cI (64 * cl) lc), (oa (a 25) cI (64 * cl) ld)] s.heap.size = A at hD ⊢
  have hA : ∀ q : Nat, s.heap.size ≤ q → A q := fun q h => by rw [← hAe]; exact Or.inr h
  clear hAe
  have hS : va_S A s.heap s.heap [] := va_S.rf
  have hP : va_P (dC, dI) classes [(om k0 a (upd I0 26 (nI ln)) J0), (oa (a 5) cI 201 st), (oa (a 6) cZ 201 tn), (oa (a 1) cI 201 kd), (oa (a 11) cI 201 mn), (oa (a 12) cI 8040 cx), (oa (a 13) cI 8040 cy), (oa (a 32) cI 8 S0), (oa (a 40) cI 6 T0), (oa (a 29) cI 42 P0), (oa (a 30) cI 42 Q0), (oa (a 33) cI 42 ox), (oa (a 34) cI 42 oy), (oa (a 37) cZ 201 mt), (oa (a 38) cZ 201 wi), (oa (a 39) cZ 8040 ins), (oa (a 43) cZ 40 fl), (oa (a 22) cI (64 * cl) la), (oa (a 23) cI (64 * cl) lb), (oa (a 24) cI (64 * cl) lc), (oa (a 25) cI (64 * cl) ld)] s.heap := hP
  obtain ⟨Q9, hQ9⟩ : ∃ Q9 : State → Prop, Q9 = MQ below (zQ (some (.int (nI mm9))) (fun t => ∃ (z9 : Int32), ∃ (on1 : Int32), ∃ (ok1 : Int32), ∃ (S1 : Nat → Int32), ∃ (T1 : Nat → Int32), ∃ (P1 : Nat → Int32), ∃ (Q1 : Nat → Int32), ∃ (ox1 : Nat → Int32), ∃ (oy1 : Nat → Int32), ∃ (mt1 : Nat → Int32), ∃ (wi1 : Nat → Int32), ∃ (ins1 : Nat → Int32), ∃ (fl1 : Nat → Int32), ∃ (bl0 : Nat), ∃ (bl1 : Nat), ∃ (bl2 : Nat), ∃ (bl3 : Nat), ∃ (la1 : Nat → Int32), ∃ (lb1 : Nat → Int32), ∃ (lc1 : Nat → Int32), ∃ (ld1 : Nat → Int32), ((∀ j, j < ln → pl (lb j) ∧ pl (lc j)) → ∀ j, j < ln + mm9 → pl (lb1 j) ∧ pl (lc1 j)) ∧ va_P (dC, dI) classes [(om k0 (va_up (va_up (va_up (va_up a 22 bl0) 23 bl1) 24 bl2) 25 bl3) (upd (upd (upd (upd I0 26 (nI (ln + mm9))) 31 z9) 35 on1) 36 ok1) J0), (oa (a 5) cI 201 st), (oa (a 6) cZ 201 tn), (oa (a 1) cI 201 kd), (oa (a 11) cI 201 mn1), (oa (a 12) cI 8040 cx1), (oa (a 13) cI 8040 cy1), (oa (a 32) cI 8 S1), (oa (a 40) cI 6 T1), (oa (a 29) cI 42 P1), (oa (a 30) cI 42 Q1), (oa (a 33) cI 42 ox1), (oa (a 34) cI 42 oy1), (oa (a 37) cZ 201 mt1), (oa (a 38) cZ 201 wi1), (oa (a 39) cZ 8040 ins1), (oa (a 43) cZ 40 fl1), (oa bl0 cI (64 * (dlN mm9 cl ln)) la1), (oa bl1 cI (64 * (dlN mm9 cl ln)) lb1), (oa bl2 cI (64 * (dlN mm9 cl ln)) lc1), (oa bl3 cI (64 * (dlN mm9 cl ln)) ld1)] t.heap ∧ va_D A [(om k0 (va_up (va_up (va_up (va_up a 22 bl0) 23 bl1) 24 bl2) 25 bl3) (upd (upd (upd (upd I0 26 (nI (ln + mm9))) 31 z9) 35 on1) 36 ok1) J0), (oa (a 5) cI 201 st), (oa (a 6) cZ 201 tn), (oa (a 1) cI 201 kd), (oa (a 11) cI 201 mn1), (oa (a 12) cI 8040 cx1), (oa (a 13) cI 8040 cy1), (oa (a 32) cI 8 S1), (oa (a 40) cI 6 T1), (oa (a 29) cI 42 P1), (oa (a 30) cI 42 Q1), (oa (a 33) cI 42 ox1), (oa (a 34) cI 42 oy1), (oa (a 37) cZ 201 mt1), (oa (a 38) cZ 201 wi1), (oa (a 39) cZ 8040 ins1), (oa (a 43) cZ 40 fl1), (oa bl0 cI (64 * (dlN mm9 cl ln)) la1), (oa bl1 cI (64 * (dlN mm9 cl ln)) lb1), (oa bl2 cI (64 * (dlN mm9 cl ln)) lc1), (oa bl3 cI (64 * (dlN mm9 cl ln)) ld1)]) A) ([.ref k0, .int (nI f), .int (nI L), .int stp] : List Value).toArray s (4 * (dlN mm9 cl ln - cl)) (512 * (dlN mm9 cl ln - cl)) A := ⟨_, rfl⟩
  rw [← hQ9]
  have hl := lv_entry ([.ref k0, .int (nI f), .int (nI L), .int stp]) (n := 5) (Nat.le_of_ble_eq_true rfl)
  rw [lg_entry_eq]
  generalize (lg_sl ([.ref k0, .int (nI f), .int (nI L), .int stp]) ++ List.replicate (5 - (lg_sl ([.ref k0, .int (nI f), .int (nI L), .int stp])).length) Slot.unset).toArray = ls at hl ⊢
  have hl : lv_has ls 5 [(0, .ref k0), (1, .int (nI f)), (2, .int (nI L)), (3, .int stp)] := hl
  refine lv_iconst (v := 0) hx hb dX11_plainAll_0 rfl ?_
  refine lv_istore (lv' := [(4, .int 0), (0, .ref k0), (1, .int (nI f)), (2, .int (nI L)), (3, .int stp)]) hx hb dX11_plainAll_1 hl (Nat.le_of_ble_eq_true rfl) rfl (fun ls hl => ?_)
  have hl_3 : ∀ (n9 : Nat) (i : Nat) (j9 : Nat) (n2 : Nat) (cl2 : Nat) (ln2 : Nat) (z9 : Int32) (on1 : Int32) (ok1 : Int32) (mn2 : Nat → Int32) (cx2 : Nat → Int32) (cy2 : Nat → Int32) (S1 : Nat → Int32) (T1 : Nat → Int32) (P1 : Nat → Int32) (Q1 : Nat → Int32) (ox1 : Nat → Int32) (oy1 : Nat → Int32) (mt1 : Nat → Int32) (wi1 : Nat → Int32) (ins1 : Nat → Int32) (fl1 : Nat → Int32) (bl0 : Nat) (bl1 : Nat) (bl2 : Nat) (bl3 : Nat) (la1 : Nat → Int32) (lb1 : Nat → Int32) (lc1 : Nat → Int32) (ld1 : Nat → Int32) (H : Heap) (locs : List Loc) (ls : Array Slot), j9 < n9 → (i + j9 = mm9) → (plI ft st tn kd f mn2 cx2 cy2 n2) → (plN ft st tn kd f L j9 mn2 cx2 cy2 n2 mn1 cx1 cy1 nn1) → (ln2 = ln + i) → (dlN j9 cl2 ln2 = dlN mm9 cl ln) → (cl ≤ cl2) → (ln2 ≤ 64 * cl2) → ((∀ j, j < ln → pl (lb j) ∧ pl (lc j)) → ∀ j, j < ln2 → pl (lb1 j) ∧ pl (lc1 j)) → va_P (dC, dI) classes [(om k0 (va_up (va_up (va_up (va_up a 22 bl0) 23 bl1) 24 bl2) 25 bl3) (upd (upd (upd (upd I0 26 (nI ln2)) 31 z9) 35 on1) 36 ok1) J0), (oa (a 5) cI 201 st), (oa (a 6) cZ 201 tn), (oa (a 1) cI 201 kd), (oa (a 11) cI 201 mn2), (oa (a 12) cI 8040 cx2), (oa (a 13) cI 8040 cy2), (oa (a 32) cI 8 S1), (oa (a 40) cI 6 T1), (oa (a 29) cI 42 P1), (oa (a 30) cI 42 Q1), (oa (a 33) cI 42 ox1), (oa (a 34) cI 42 oy1), (oa (a 37) cZ 201 mt1), (oa (a 38) cZ 201 wi1), (oa (a 39) cZ 8040 ins1), (oa (a 43) cZ 40 fl1), (oa bl0 cI (64 * cl2) la1), (oa bl1 cI (64 * cl2) lb1), (oa bl2 cI (64 * cl2) lc1), (oa bl3 cI (64 * cl2) ld1)] H → va_D A [(om k0 (va_up (va_up (va_up (va_up a 22 bl0) 23 bl1) 24 bl2) 25 bl3) (upd (upd (upd (upd I0 26 (nI ln2)) 31 z9) 35 on1) 36 ok1) J0), (oa (a 5) cI 201 st), (oa (a 6) cZ 201 tn), (oa (a 1) cI 201 kd), (oa (a 11) cI 201 mn2), (oa (a 12) cI 8040 cx2), (oa (a 13) cI 8040 cy2), (oa (a 32) cI 8 S1), (oa (a 40) cI 6 T1), (oa (a 29) cI 42 P1), (oa (a 30) cI 42 Q1), (oa (a 33) cI 42 ox1), (oa (a 34) cI 42 oy1), (oa (a 37) cZ 201 mt1), (oa (a 38) cZ 201 wi1), (oa (a 39) cZ 8040 ins1), (oa (a 43) cZ 40 fl1), (oa bl0 cI (64 * cl2) la1), (oa bl1 cI (64 * cl2) lb1), (oa bl2 cI (64 * cl2) lc1), (oa bl3 cI (64 * cl2) ld1)] → va_S A s.heap H locs → lv_has ls 5 [(4, .int (nI i)), (0, .ref k0), (1, .int (nI f)), (2, .int (nI L)), (3, .int stp)] → W p l e ((headSpec (.code yX11_plainAll cX11_plainAll 5 (some .int) :: ws0) ({ frames := 8, cells := 4 * (dlN mm9 cl ln - cl), slots := 512 * (dlN mm9 cl ln - cl), locals := 209 } : Room)).room) s m ([.ref k0, .int (nI f), .int (nI L), .int stp] : List Value).toArray below meth c H locs (4 * (cl2 - cl)) (512 * (cl2 - cl)) Q9 (F0 m 3 ls []) := by
    intro n9
    induction n9 with
    | zero => intro i j9 n2 cl2 ln2 z9 on1 ok1 mn2 cx2 cy2 S1 T1 P1 Q1 ox1 oy1 mt1 wi1 ins1 fl1 bl0 bl1 bl2 bl3 la1 lb1 lc1 ld1 H locs ls hm; exact absurd hm (Nat.not_lt_zero _)
    | succ n9 ih_3 =>
      intro i j9 n2 cl2 ln2 z9 on1 ok1 mn2 cx2 cy2 S1 T1 P1 Q1 ox1 oy1 mt1 wi1 ins1 fl1 bl0 bl1 bl2 bl3 la1 lb1 lc1 ld1 H locs ls hm hij hpi2 hf2 hln2 hce hcl2 hlc2 hlp2 hP hD hS hl
      have hle9 := dlN_le j9 cl2 ln2
      have hnb9 := hpi2.2.1
      rcases Nat.eq_zero_or_pos j9 with h0 | h0
      · skip
        have hz9 := plN_z h0 hf2
        have hce0 : dlN mm9 cl ln = cl2 := (by rw [← hce, h0]; rfl)
        refine lv_aload_n hx hb dX11_plainAll_3 rfl (lv_at hl 1 rfl) ?_
        refine lv_iload_n hx hb dX11_plainAll_4 rfl (lv_at hl 2 rfl) ?_
        refine lv_iload_n hx hb dX11_plainAll_5 rfl (lv_at hl 3 rfl) ?_
        refine lv_i2l (v := (nI L).toInt64) hx hb dX11_plainAll_6 (rfl) ?_
        refine zz_l (v := jI ((L : Nat) : Int)) (nI_64 (by omega)) ?_
        refine lv_iload_n hx hb dX11_plainAll_7 rfl (lv_at hl 4 rfl) ?_
        obtain ⟨hPc, hDc, hFc⟩ := zc_sub (wc := [(om k0 (va_up (va_up (va_up (va_up a 22 bl0) 23 bl1) 24 bl2) 25 bl3) (upd (upd (upd (upd I0 26 (nI ln2)) 31 z9) 35 on1) 36 ok1) J0), (oa (a 5) cI 201 st), (oa (a 6) cZ 201 tn), (oa (a 1) cI 201 kd), (oa (a 11) cI 201 mn2), (oa (a 12) cI 8040 cx2), (oa (a 13) cI 8040 cy2), (oa (a 32) cI 8 S1), (oa (a 40) cI 6 T1), (oa (a 29) cI 42 P1), (oa (a 30) cI 42 Q1), (oa (a 33) cI 42 ox1), (oa (a 34) cI 42 oy1), (oa (a 37) cZ 201 mt1), (oa (a 38) cZ 201 wi1), (oa (a 39) cZ 8040 ins1), (oa (a 43) cZ 40 fl1), (oa bl0 cI (64 * cl2) la1), (oa bl1 cI (64 * cl2) lb1), (oa bl2 cI (64 * cl2) lc1), (oa bl3 cI (64 * cl2) ld1)]) hP hD hS hA [0, 1, 2, 3, 4, 5, 6, 7, 8, 9, 10, 11, 12, 13, 14, 15, 16, 17, 18, 19, 20] rfl rfl
        refine zcall (st1 := [.int 0]) (va_runV (As := [.int (nI f), .long (jI ((L : Nat) : Int)), .int stp]) (rest := []) ⟨hx, hb, hml, hown, hts⟩ (k_M_plain_n l dC dI cI cZ cF H.size k0 (va_up (va_up (va_up (va_up a 22 bl0) 23 bl1) 24 bl2) 25 bl3) (upd (upd (upd (upd I0 26 (nI ln2)) 31 z9) 35 on1) 36 ok1) J0 f n2 L ft ln2 cl2 stp st tn kd mn2 cx2 cy2 S1 T1 P1 Q1 ox1 oy1 mt1 wi1 ins1 fl1 la1 lb1 lc1 ld1 (by first | with_reducible assumption | assumption) (by first | with_reducible assumption | omega) (by first | with_reducible assumption | omega) (hpi2.1) (hpi2.2.1) (hpi2.2.2.1) (by first | with_reducible assumption | omega) (hpi2.2.2.2.1) (hpi2.2.2.2.2) (hz9.2.2.2.2)) (csV_204 hts rfl rfl ⟨Nat.le_of_ble_eq_true rfl, Nat.le_of_ble_eq_true rfl⟩) (zPV2 (q0 := 0) (ci := 9) hPc hDc hK hXN rfl rfl) rfl rfl hl.1 rfl (lv_room (Nat.le_of_ble_eq_true rfl)) dX11_plainAll_8 ⟨show 4 * (cl2 - cl) ≤ 4 * (dlN mm9 cl ln - cl) by omega, show 512 * (cl2 - cl) ≤ 512 * (dlN mm9 cl ln - cl) by omega⟩) hS hFc hFc rfl (fun t H locs ht hB hk1 hS => ?_)
        obtain ⟨z3, on3, ok3, S3, T3, P3, Q3, ox3, oy3, mt3, wi3, ins3, fl3, hP1, hD1⟩ := hB
        rw [ht] at hP1
        obtain ⟨hP, hD⟩ := zk (W2 := [(om k0 (va_up (va_up (va_up (va_up a 22 bl0) 23 bl1) 24 bl2) 25 bl3) (upd (upd (upd (upd I0 26 (nI ln2)) 31 z3) 35 on3) 36 ok3) J0), (oa (a 5) cI 201 st), (oa (a 6) cZ 201 tn), (oa (a 1) cI 201 kd), (oa (a 11) cI 201 mn2), (oa (a 12) cI 8040 cx2), (oa (a 13) cI 8040 cy2), (oa (a 32) cI 8 S3), (oa (a 40) cI 6 T3), (oa (a 29) cI 42 P3), (oa (a 30) cI 42 Q3), (oa (a 33) cI 42 ox3), (oa (a 34) cI 42 oy3), (oa (a 37) cZ 201 mt3), (oa (a 38) cZ 201 wi3), (oa (a 39) cZ 8040 ins3), (oa (a 43) cZ 40 fl3), (oa bl0 cI (64 * cl2) la1), (oa bl1 cI (64 * cl2) lb1), (oa bl2 cI (64 * cl2) lc1), (oa bl3 cI (64 * cl2) ld1)]) hP hD [0, 1, 2, 3, 4, 5, 6, 7, 8, 9, 10, 11, 12, 13, 14, 15, 16, 17, 18, 19, 20] [] [] [0, 1, 2, 3, 4, 5, 6, 7, 8, 9, 10, 11, 12, 13, 14, 15, 16, 17, 18, 19, 20] [0, 1, 2, 3, 4, 5, 6, 7, 8, 9, 10, 11, 12, 13, 14, 15, 16, 17, 18, 19, 20] 21 rfl rfl rfl rfl rfl rfl rfl rfl rfl hk1 hFc hP1 hD1
        clear hk1 hPc hDc hFc hP1 hD1 ht
        refine lv_if_eq (tgt := 20) hx hb dX11_plainAll_11 rfl (fun c_1 => ?_) (fun c_1 => ?_)
        · refine lv_iload hx hb dX11_plainAll_20 (lv_at hl 0 rfl) ?_
          obtain ⟨hP9, hD9⟩ := zq_sub (wc := [(om k0 (va_up (va_up (va_up (va_up a 22 bl0) 23 bl1) 24 bl2) 25 bl3) (upd (upd (upd (upd I0 26 (nI ln2)) 31 z3) 35 on3) 36 ok3) J0), (oa (a 5) cI 201 st), (oa (a 6) cZ 201 tn), (oa (a 1) cI 201 kd), (oa (a 11) cI 201 mn2), (oa (a 12) cI 8040 cx2), (oa (a 13) cI 8040 cy2), (oa (a 32) cI 8 S3), (oa (a 40) cI 6 T3), (oa (a 29) cI 42 P3), (oa (a 30) cI 42 Q3), (oa (a 33) cI 42 ox3), (oa (a 34) cI 42 oy3), (oa (a 37) cZ 201 mt3), (oa (a 38) cZ 201 wi3), (oa (a 39) cZ 8040 ins3), (oa (a 43) cZ 40 fl3), (oa bl0 cI (64 * cl2) la1), (oa bl1 cI (64 * cl2) lb1), (oa bl2 cI (64 * cl2) lc1), (oa bl3 cI (64 * cl2) ld1)]) hP hD [0, 1, 2, 3, 4, 5, 6, 7, 8, 9, 10, 11, 12, 13, 14, 15, 16, 17, 18, 19, 20] rfl rfl
          have hE9 : ([(om k0 (va_up (va_up (va_up (va_up a 22 bl0) 23 bl1) 24 bl2) 25 bl3) (upd (upd (upd (upd I0 26 (nI ln2)) 31 z3) 35 on3) 36 ok3) J0), (oa (a 5) cI 201 st), (oa (a 6) cZ 201 tn), (oa (a 1) cI 201 kd), (oa (a 11) cI 201 mn2), (oa (a 12) cI 8040 cx2), (oa (a 13) cI 8040 cy2), (oa (a 32) cI 8 S3), (oa (a 40) cI 6 T3), (oa (a 29) cI 42 P3), (oa (a 30) cI 42 Q3), (oa (a 33) cI 42 ox3), (oa (a 34) cI 42 oy3), (oa (a 37) cZ 201 mt3), (oa (a 38) cZ 201 wi3), (oa (a 39) cZ 8040 ins3), (oa (a 43) cZ 40 fl3), (oa bl0 cI (64 * cl2) la1), (oa bl1 cI (64 * cl2) lb1), (oa bl2 cI (64 * cl2) lc1), (oa bl3 cI (64 * cl2) ld1)] : va_W) = [(om k0 (va_up (va_up (va_up (va_up a 22 bl0) 23 bl1) 24 bl2) 25 bl3) (upd (upd (upd (upd I0 26 (nI (ln + mm9))) 31 z3) 35 on3) 36 ok3) J0), (oa (a 5) cI 201 st), (oa (a 6) cZ 201 tn), (oa (a 1) cI 201 kd), (oa (a 11) cI 201 mn1), (oa (a 12) cI 8040 cx1), (oa (a 13) cI 8040 cy1), (oa (a 32) cI 8 S3), (oa (a 40) cI 6 T3), (oa (a 29) cI 42 P3), (oa (a 30) cI 42 Q3), (oa (a 33) cI 42 ox3), (oa (a 34) cI 42 oy3), (oa (a 37) cZ 201 mt3), (oa (a 38) cZ 201 wi3), (oa (a 39) cZ 8040 ins3), (oa (a 43) cZ 40 fl3), (oa bl0 cI (64 * (dlN mm9 cl ln)) la1), (oa bl1 cI (64 * (dlN mm9 cl ln)) lb1), (oa bl2 cI (64 * (dlN mm9 cl ln)) lc1), (oa bl3 cI (64 * (dlN mm9 cl ln)) ld1)] := by rw [hz9.1, hz9.2.1, hz9.2.2.1, show ln2 = ln + mm9 by omega, hce0]
          rw [hE9] at hP9 hD9
          refine W.widen (k := 4 * (dlN mm9 cl ln - cl)) (n := 512 * (dlN mm9 cl ln - cl)) (by omega) (by omega) ?_
          rw [hQ9]
          exact W.iret (v := nI i) hx hb hr (fun t ht hW => ⟨⟨congrArg (fun z => Outcome.returned (some (Value.int z))) (show (nI i : Int32) = nI mm9 from zn_eq (by omega)), z3, on3, ok3, S3, T3, P3, Q3, ox3, oy3, mt3, wi3, ins3, fl3, bl0, bl1, bl2, bl3, la1, lb1, lc1, ld1, (fun h j hj => hlp2 h j (by omega)), by rw [ht]; exact hP9, hD9⟩, hS.F ht⟩) hS.2.2 dX11_plainAll_22
        · exact absurd (by decide) c_1
      · skip
        obtain ⟨r9, k9, hr9, hk9, hf3⟩ := plN_p h0 hf2
        have hce3 : dlN r9 (dl cl2 ln2) (ln2 + 1) = dlN mm9 cl ln := (by rw [← hce, hr9]; rfl)
        have hle3 := dlN_le r9 (dl cl2 ln2) (ln2 + 1)
        have hle4 := dl_le cl2 ln2
        refine lv_aload_n hx hb dX11_plainAll_3 rfl (lv_at hl 1 rfl) ?_
        refine lv_iload_n hx hb dX11_plainAll_4 rfl (lv_at hl 2 rfl) ?_
        refine lv_iload_n hx hb dX11_plainAll_5 rfl (lv_at hl 3 rfl) ?_
        refine lv_i2l (v := (nI L).toInt64) hx hb dX11_plainAll_6 (rfl) ?_
        refine zz_l (v := jI ((L : Nat) : Int)) (nI_64 (by omega)) ?_
        refine lv_iload_n hx hb dX11_plainAll_7 rfl (lv_at hl 4 rfl) ?_
        obtain ⟨hPc, hDc, hFc⟩ := zc_sub (wc := [(om k0 (va_up (va_up (va_up (va_up a 22 bl0) 23 bl1) 24 bl2) 25 bl3) (upd (upd (upd (upd I0 26 (nI ln2)) 31 z9) 35 on1) 36 ok1) J0), (oa (a 5) cI 201 st), (oa (a 6) cZ 201 tn), (oa (a 1) cI 201 kd), (oa (a 11) cI 201 mn2), (oa (a 12) cI 8040 cx2), (oa (a 13) cI 8040 cy2), (oa (a 32) cI 8 S1), (oa (a 40) cI 6 T1), (oa (a 29) cI 42 P1), (oa (a 30) cI 42 Q1), (oa (a 33) cI 42 ox1), (oa (a 34) cI 42 oy1), (oa (a 37) cZ 201 mt1), (oa (a 38) cZ 201 wi1), (oa (a 39) cZ 8040 ins1), (oa (a 43) cZ 40 fl1), (oa bl0 cI (64 * cl2) la1), (oa bl1 cI (64 * cl2) lb1), (oa bl2 cI (64 * cl2) lc1), (oa bl3 cI (64 * cl2) ld1)]) hP hD hS hA [0, 1, 2, 3, 4, 5, 6, 7, 8, 9, 10, 11, 12, 13, 14, 15, 16, 17, 18, 19, 20] rfl rfl
        refine zcall (st1 := [.int 1]) (va_runV (As := [.int (nI f), .long (jI ((L : Nat) : Int)), .int stp]) (rest := []) ⟨hx, hb, hml, hown, hts⟩ (k_M_plain_y l dC dI cI cZ cF H.size k0 (va_up (va_up (va_up (va_up a 22 bl0) 23 bl1) 24 bl2) 25 bl3) (upd (upd (upd (upd I0 26 (nI ln2)) 31 z9) 35 on1) 36 ok1) J0 f n2 L ft ln2 cl2 k9 stp st tn kd mn2 cx2 cy2 S1 T1 P1 Q1 ox1 oy1 mt1 wi1 ins1 fl1 la1 lb1 lc1 ld1 (by first | with_reducible assumption | assumption) (by first | with_reducible assumption | omega) (by first | with_reducible assumption | omega) (hpi2.1) (hpi2.2.1) (hpi2.2.2.1) (by first | with_reducible assumption | omega) (hpi2.2.2.2.1) (hpi2.2.2.2.2) (by first | with_reducible assumption | omega) (by first | with_reducible assumption | omega) (by first | with_reducible assumption | omega) (hk9)) (csV_204 hts rfl rfl ⟨Nat.le_of_ble_eq_true rfl, Nat.le_of_ble_eq_true rfl⟩) (zPV2 (q0 := 0) (ci := 9) hPc hDc hK hXN rfl rfl) rfl rfl hl.1 rfl (lv_room (Nat.le_of_ble_eq_true rfl)) dX11_plainAll_8 ⟨show (4 * (cl2 - cl) + (4 * (dl cl2 ln2 - cl2))) ≤ 4 * (dlN mm9 cl ln - cl) by omega, show (512 * (cl2 - cl) + (512 * (dl cl2 ln2 - cl2))) ≤ 512 * (dlN mm9 cl ln - cl) by omega⟩) hS hFc hFc rfl (fun t H locs ht hB hk1 hS => ?_)
        obtain ⟨z3, on3, ok3, S3, T3, P3, Q3, ox3, oy3, mt3, wi3, ins3, fl3, b30, b31, b32, b33, la3, lb3, lc3, ld3, hlp3, hP1, hD1⟩ := hB
        rw [ht] at hP1
        obtain ⟨hP, hD⟩ := zk (W2 := [(om k0 (va_up (va_up (va_up (va_up a 22 b30) 23 b31) 24 b32) 25 b33) (upd (upd (upd (upd I0 26 (nI (ln2 + 1))) 31 z3) 35 on3) 36 ok3) J0), (oa (a 5) cI 201 st), (oa (a 6) cZ 201 tn), (oa (a 1) cI 201 kd), (oa (a 11) cI 201 (upd mn2 f (nI (n2 - 1)))), (oa (a 12) cI 8040 (shp f k9 (n2 - 1) cx2)), (oa (a 13) cI 8040 (shp f k9 (n2 - 1) cy2)), (oa (a 32) cI 8 S3), (oa (a 40) cI 6 T3), (oa (a 29) cI 42 P3), (oa (a 30) cI 42 Q3), (oa (a 33) cI 42 ox3), (oa (a 34) cI 42 oy3), (oa (a 37) cZ 201 mt3), (oa (a 38) cZ 201 wi3), (oa (a 39) cZ 8040 ins3), (oa (a 43) cZ 40 fl3), (oa b30 cI (64 * (dl cl2 ln2)) la3), (oa b31 cI (64 * (dl cl2 ln2)) lb3), (oa b32 cI (64 * (dl cl2 ln2)) lc3), (oa b33 cI (64 * (dl cl2 ln2)) ld3)]) hP hD [0, 1, 2, 3, 4, 5, 6, 7, 8, 9, 10, 11, 12, 13, 14, 15, 16, 17, 18, 19, 20] [] [] [0, 1, 2, 3, 4, 5, 6, 7, 8, 9, 10, 11, 12, 13, 14, 15, 16, 17, 18, 19, 20] [0, 1, 2, 3, 4, 5, 6, 7, 8, 9, 10, 11, 12, 13, 14, 15, 16, 17, 18, 19, 20] 21 rfl rfl rfl rfl rfl rfl rfl rfl rfl hk1 hFc hP1 hD1
        clear hk1 hPc hDc hFc hP1 hD1 ht
        refine lv_if_eq (tgt := 20) hx hb dX11_plainAll_11 rfl (fun c_2 => ?_) (fun c_2 => ?_)
        · exact absurd c_2 (by decide)
        · refine lv_iinc (v := nI (i + 1)) (lv' := [(4, .int (nI (i + 1))), (0, .ref k0), (1, .int (nI f)), (2, .int (nI L)), (3, .int stp)]) hx hb dX11_plainAll_14 hl (k := 0) rfl (nI_add i 1) (Nat.le_of_ble_eq_true rfl) rfl (fun ls hl => ?_)
          refine lv_goto (tgt := 3) hx hb dX11_plainAll_17 rfl ?_
          refine W.widen (k := 4 * ((dl cl2 ln2) - cl)) (n := 512 * ((dl cl2 ln2) - cl)) (by omega) (by omega) ?_
          exact ih_3 (i + 1) r9 (n2 - 1) (dl cl2 ln2) (ln2 + 1) z3 on3 ok3 (upd mn2 f (nI (n2 - 1))) (shp f k9 (n2 - 1) cx2) (shp f k9 (n2 - 1) cy2) S3 T3 P3 Q3 ox3 oy3 mt3 wi3 ins3 fl3 b30 b31 b32 b33 la3 lb3 lc3 ld3 H locs ls (by first | with_reducible assumption | omega) (by first | with_reducible assumption | omega) (plI_s hpi2 hk9) (hf3) (by first | with_reducible assumption | omega) (hce3) (by first | with_reducible assumption | omega) (dl_fit hlc2 (by first | with_reducible assumption | omega)) (fun h => hlp3 (hlp2 h)) hP hD hS (lv_sub hl [0, 1, 2, 3, 4] rfl)
  refine W.widen (k := 4 * (cl - cl)) (n := 512 * (cl - cl)) (by omega) (by omega) ?_
  exact hl_3 _ 0 mm9 n cl ln (I0 31) (I0 35) (I0 36) mn cx cy S0 T0 P0 Q0 ox oy mt wi ins fl (a 22) (a 23) (a 24) (a 25) la lb lc ld s.heap [] ls (Nat.lt_succ_self _) (by first | with_reducible assumption | omega) (hpi) (hfin) (by first | with_reducible assumption | omega) (rfl) (Nat.le_refl _) (by first | with_reducible assumption | omega) (fun h => h) hP hD hS (lv_sub hl [0, 1, 2, 3, 4] rfl)
end
