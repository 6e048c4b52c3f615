set_option maxHeartbeats 4000000 in
set_option maxRecDepth 100000 in
theorem k_undo_y (l : Launch) (dC : Nat → ClassId) (dI : Nat → Nat → Nat) (cI cZ cF : ClassId) (sz : Nat) (cO : ClassId) (e0 : Nat) (mi : Nat) (x : Nat) (sh : Nat) (lw : Nat) (ro : Nat) (bq : Nat) (bp : Nat) (dq : Nat) (dp : Nat) (lv : Nat) (sl : Nat) (ul : Int32) (su : Int32) (ea : Nat) (mc9 : Int32) (fa : Nat) (FA : Nat → Option Nat) (bs : Nat) (dn : Nat) (T : Nat) (ft : Nat) (FT : Nat → Nat) (V : Nat → Nat → Nat → Int32) (VX : Nat → Nat → Int32) (VY : Nat → Nat → Int32) (tn : Nat → Int32) (rk : Nat → Int32) (wd : Nat → Int32) (tw : Nat → Int32) (pa : Nat → Int32) (pb : Nat → Int32) (wh : Nat → Int32) (of9 : Nat → Int32) (we : Nat → Int32) (kd : Nat → Int32) (st : Nat → Int32) (gb : Nat → Int32) (it : Nat → Int32) (mn : Nat → Int32) (cx : Nat → Int32) (cy : Nat → Int32) (L : List Nat) (f : Nat → va_E) (kd1 : Nat → Int32) (st1 : Nat → Int32) (gb1 : Nat → Int32) (it1 : Nat → Int32) (mn1 : Nat → Int32) (cx1 : Nat → Int32) (cy1 : Nat → Int32) (hB : shB cI cO L f e0 FA ea bs dn T ft FT V VX VY tn rk wd tw pa pb wh of9 we kd st gb it mn cx cy) (hlt : bs < dn) (hc : ∀ q, q < FT (dn - 1) → kd1 q = V (dn - 1) 0 q ∧ st1 q = V (dn - 1) 1 q ∧ gb1 q = V (dn - 1) 2 q ∧ it1 q = V (dn - 1) 3 q ∧ ((¬ (V (dn - 1) 1 q).toInt = 0 ∧ (tn q).toInt = 0) → nN (mn1 q) = nN (V (dn - 1) 4 q) ∧ ∀ k, k < nN (V (dn - 1) 4 q) → cF40 cx1 q k = cF40 (VX (dn - 1)) q k ∧ cF40 cy1 q k = cF40 (VY (dn - 1)) q k) ∧ ((V (dn - 1) 1 q).toInt = 0 → mn1 q = mn q ∧ ∀ k, k < 40 → cF40 cx1 q k = cF40 cx q k ∧ cF40 cy1 q k = cF40 cy q k)) : Met l yX10_undo (.code yX10_undo cX10_undo 2 (some .int) :: ws0) ({ frames := 3, cells := 0, slots := 0, locals := 64 } : Room) (va_Pc [.ref x] (zPre (dC, dI) classes (zTyO cI cZ cF cO) ([(oc8 x (.ref sh) (.ref lw) (.ref ro) (.ref bq) (.ref bp) (.ref dq) (.ref dp) (.ref lv) (.ref sl) (nI dn) (nI bs) ul su), (oc10 sl mc9 (.ref ea) (nI T)), (oc7 sh (.ref fa) (nI ft)), (oq fa cF 200 FA)] ++ va_pl L f) sz (zXL e0 mi (va_A ([(oc8 x (.ref sh) (.ref lw) (.ref ro) (.ref bq) (.ref bp) (.ref dq) (.ref dp) (.ref lv) (.ref sl) (nI dn) (nI bs) ul su), (oc10 sl mc9 (.ref ea) (nI T)), (oc7 sh (.ref fa) (nI ft)), (oq fa cF 200 FA)] ++ va_pl L f) sz)))) (zQ (some (.int (nI (dn - 1 + 1)))) (fun t => ∃ (L1 : List Nat), ∃ (f1 : Nat → va_E), ∃ (FA1 : Nat → Option Nat), (shB cI cO L1 f1 e0 FA1 ea bs (dn - 1) T (FT (dn - 1)) FT V VX VY tn rk wd tw pa pb wh of9 we kd1 st1 gb1 it1 mn1 cx1 cy1) ∧ va_P (dC, dI) classes ([(oc8 x (.ref sh) (.ref lw) (.ref ro) (.ref bq) (.ref bp) (.ref dq) (.ref dp) (.ref lv) (.ref sl) (nI (dn - 1)) (nI bs) ul 0), (oc10 sl mc9 (.ref ea) (nI T)), (oc7 sh (.ref fa) (nI (FT (dn - 1)))), (oq fa cF 200 FA1)] ++ va_pl L1 f1) t.heap ∧ va_D (va_A ([(oc8 x (.ref sh) (.ref lw) (.ref ro) (.ref bq) (.ref bp) (.ref dq) (.ref dp) (.ref lv) (.ref sl) (nI dn) (nI bs) ul su), (oc10 sl mc9 (.ref ea) (nI T)), (oc7 sh (.ref fa) (nI ft)), (oq fa cF 200 FA)] ++ va_pl L f) sz) ([(oc8 x (.ref sh) (.ref lw) (.ref ro) (.ref bq) (.ref bp) (.ref dq) (.ref dp) (.ref lv) (.ref sl) (nI (dn - 1)) (nI bs) ul 0), (oc10 sl mc9 (.ref ea) (nI T)), (oc7 sh (.ref fa) (nI (FT (dn - 1)))), (oq fa cF 200 FA1)] ++ va_pl L1 f1)) (va_A ([(oc8 x (.ref sh) (.ref lw) (.ref ro) (.ref bq) (.ref bp) (.ref dq) (.ref dp) (.ref lv) (.ref sl) (nI dn) (nI bs) ul su), (oc10 sl mc9 (.ref ea) (nI T)), (oc7 sh (.ref fa) (nI ft)), (oq fa cF 200 FA)] ++ va_pl L f) sz)) 0 0 (va_A ([(oc8 x (.ref sh) (.ref lw) (.ref ro) (.ref bq) (.ref bp) (.ref dq) (.ref dp) (.ref lv) (.ref sl) (nI dn) (nI bs) ul su), (oc10 sl mc9 (.ref ea) (nI T)), (oc7 sh (.ref fa) (nI ft)), (oq fa cF 200 FA)] ++ va_pl L f) sz) := by
  refine Met.ofW (cc := cX10_undo) (maxL := 2) (ret := (some .int)) (by decide) rfl ?_
  intro p e s m args below meth c s₁ B hml hv
  obtain ⟨rfl, hsz, hP, hK, hD0, hXL⟩ := hv
  have hx := B.exec
  have hb := B.bytes
  have hr := B.returns
  have hts0 := atoms_spec (ws := .code yX10_undo cX10_undo 2 (some .int) :: ws0) B.pre
  have hts : ∀ w9 ∈ ws0, w9.before ([.ref x] : List Value).toArray s = true := fun w9 h => hts0 w9 (List.mem_cons_of_mem _ h)
  have hown : s.vm.findClass "ScaleShop" = some m.cls := findClass_of_methodNamed B.named
  have hlocks := B.notSynchronized
  subst hsz
  have hD := hD0.self (sz := s.heap.size)
  clear hD0
  generalize hAe : va_A ([(oc8 x (.ref sh) (.ref lw) (.ref ro) (.ref bq) (.ref bp) (.ref dq) (.ref dp) (.ref lv) (.ref sl) (nI dn) (nI bs) ul su), (oc10 sl mc9 (.ref ea) (nI T)), (oc7 sh (.ref fa) (nI ft)), (oq fa cF 200 FA)] ++ va_pl L f) s.heap.size = A at hD hXL ⊢
  have hA : ∀ q : Nat, s.heap.size ≤ q → A q := fun q h => by rw [← hAe]; exact Or.inr h
  clear hAe
  have hS : va_S A s.heap s.heap [] := va_S.rf
  have hXN := hXL.1
  have hK3 := hK.sub [0, 1, 2] rfl
  have hP : va_P (dC, dI) classes ([(oc8 x (.ref sh) (.ref lw) (.ref ro) (.ref bq) (.ref bp) (.ref dq) (.ref dp) (.ref lv) (.ref sl) (nI dn) (nI bs) ul su), (oc10 sl mc9 (.ref ea) (nI T)), (oc7 sh (.ref fa) (nI ft)), (oq fa cF 200 FA)] ++ va_pl L f) s.heap := hP
  obtain ⟨Q9, hQ9⟩ : ∃ Q9 : State → Prop, Q9 = MQ below (zQ (some (.int (nI (dn - 1 + 1)))) (fun t => ∃ (L1 : List Nat), ∃ (f1 : Nat → va_E), ∃ (FA1 : Nat → Option Nat), (shB cI cO L1 f1 e0 FA1 ea bs (dn - 1) T (FT (dn - 1)) FT V VX VY tn rk wd tw pa pb wh of9 we kd1 st1 gb1 it1 mn1 cx1 cy1) ∧ va_P (dC, dI) classes ([(oc8 x (.ref sh) (.ref lw) (.ref ro) (.ref bq) (.ref bp) (.ref dq) (.ref dp) (.ref lv) (.ref sl) (nI (dn - 1)) (nI bs) ul 0), (oc10 sl mc9 (.ref ea) (nI T)), (oc7 sh (.ref fa) (nI (FT (dn - 1)))), (oq fa cF 200 FA1)] ++ va_pl L1 f1) t.heap ∧ va_D A ([(oc8 x (.ref sh) (.ref lw) (.ref ro) (.ref bq) (.ref bp) (.ref dq) (.ref dp) (.ref lv) (.ref sl) (nI (dn - 1)) (nI bs) ul 0), (oc10 sl mc9 (.ref ea) (nI T)), (oc7 sh (.ref fa) (nI (FT (dn - 1)))), (oq fa cF 200 FA1)] ++ va_pl L1 f1)) A) ([.ref x] : List Value).toArray s 0 0 A := ⟨_, rfl⟩
  rw [← hQ9]
  have hl := lv_entry ([.ref x]) (n := 2) (Nat.le_of_ble_eq_true rfl)
  rw [lg_entry_eq]
  generalize (lg_sl ([.ref x]) ++ List.replicate (2 - (lg_sl ([.ref x])).length) Slot.unset).toArray = ls at hl ⊢
  have hl : lv_has ls 2 [(0, .ref x)] := hl
  obtain ⟨own, fe, cl, la, sp, SA, hG9, hH9, hft9⟩ := hB
  have hN9 := hG9.2.2.2.2.2.1
  have h200 : ft ≤ 200 := Nat.le_trans hN9.2.2.2.2.1 hN9.2.2.2.2.2
  have hFT2 := hN9.2.2.2.2.2
  have hFA9 := hG9.2.2.2.2.2.2
  have hdT := hN9.2.1
  have hT5 := hN9.2.2.1
  have hbd := hN9.1
  obtain ⟨hs1, mv5, ch5, hs2, hs3⟩ := hG9.2.2.2.1 (dn) (by omega) (by omega)
  obtain ⟨⟨qs5, hch5, hqs5, hql5⟩, hmv5⟩ := hs3 (by omega)
  obtain ⟨cap5, hce5, hnc5, hc10, hc1k, hent⟩ : ∃ cap : Nat, ce L f own 8002 ea (.inl (cO, cap, .inr (.inr (.inr (.inr SA))))) ∧ T ≤ cap ∧ 10 ≤ cap ∧ cap ≤ 1000 ∧ ∀ i, i < T → ∃ (y : Nat) (vs : List Value), SA i = some y ∧ ce L f own 8001 y (.inr (11, vs)) := (hG9.2.2.2.2.1).resolve_left (fun g => by omega)
  rcases hmv5 with ⟨hf5, hm5⟩ | ⟨hf5, hm5⟩
  · skip
    subst hm5
    have hc9_1 : inPl L f [(oq ea cO cap5 SA), (oc11 (sp dn) (wh dn) (of9 dn) (we dn) .null ch5)] := ⟨ce_pl hce5, ce_pl hs2, trivial⟩
    have hD0_1 := hD
    obtain ⟨hP, hD⟩ := pl_out hP hD [(oq ea cO cap5 SA), (oc11 (sp dn) (wh dn) (of9 dn) (we dn) .null ch5)] hc9_1 (pw2 (ca_ne hs2.2.1 hce5.2.1).symm)
    generalize hT_1 : outPl L [(oq ea cO cap5 SA), (oc11 (sp dn) (wh dn) (of9 dn) (we dn) .null ch5)] = T_1 at hP hD
    have hP : va_P (dC, dI) classes ([(oc8 x (.ref sh) (.ref lw) (.ref ro) (.ref bq) (.ref bp) (.ref dq) (.ref dp) (.ref lv) (.ref sl) (nI dn) (nI bs) ul su), (oc10 sl mc9 (.ref ea) (nI T)), (oc7 sh (.ref fa) (nI ft)), (oq fa cF 200 FA), (oq ea cO cap5 SA), (oc11 (sp dn) (wh dn) (of9 dn) (we dn) .null ch5)] ++ va_pl T_1 f) s.heap := hP
    have hD : va_D A ([(oc8 x (.ref sh) (.ref lw) (.ref ro) (.ref bq) (.ref bp) (.ref dq) (.ref dp) (.ref lv) (.ref sl) (nI dn) (nI bs) ul su), (oc10 sl mc9 (.ref ea) (nI T)), (oc7 sh (.ref fa) (nI ft)), (oq fa cF 200 FA), (oq ea cO cap5 SA), (oc11 (sp dn) (wh dn) (of9 dn) (we dn) .null ch5)] ++ va_pl T_1 f) := hD
    refine lv_aload_n hx hb dX10_undo_0 rfl (lv_at hl 0 rfl) ?_
    refine va_get (D := (dC, dI)) (ci := 8) (v := .int (nI dn)) (C := RX10) (T := TX10) (N := 13) hx hb hts inX10 hown hK hP 0 rfl rfl 9 (by decide) (hts _ mw_318) (fun _ h9 => h9) rfl dX10_undo_1 ?_
    refine lv_aload_n hx hb dX10_undo_4 rfl (lv_at hl 0 rfl) ?_
    refine va_get (D := (dC, dI)) (ci := 8) (v := .int (nI bs)) (C := RX10) (T := TX10) (N := 13) hx hb hts inX10 hown hK hP 0 rfl rfl 10 (by decide) (hts _ mw_319) (fun _ h9 => h9) rfl dX10_undo_5 ?_
    refine lv_icmp_le (tgt := 25) hx hb dX10_undo_8 (by decide) (fun c_1 => ?_) (fun c_1 => ?_)
    · have c_1 : ((dn : Nat) : Int) ≤ ((bs : Nat) : Int) := zc_le (nI_toInt (by omega)) (nI_toInt (by omega)) c_1
      exfalso; omega
    · have c_1 : ((bs : Nat) : Int) < ((dn : Nat) : Int) := zc_nle (nI_toInt (by omega)) (nI_toInt (by omega)) c_1
      refine lv_aload_n hx hb dX10_undo_11 rfl (lv_at hl 0 rfl) ?_
      refine va_get (D := (dC, dI)) (ci := 8) (v := .int (nI dn)) (C := RX10) (T := TX10) (N := 13) hx hb hts inX10 hown hK hP 0 rfl rfl 9 (by decide) (hts _ mw_318) (fun _ h9 => h9) rfl dX10_undo_12 ?_
      refine lv_aload_n hx hb dX10_undo_15 rfl (lv_at hl 0 rfl) ?_
      refine va_get (D := (dC, dI)) (ci := 8) (v := .ref sl) (C := RX10) (T := TX10) (N := 13) hx hb hts inX10 hown hK hP 0 rfl rfl 8 (by decide) (hts _ mw_317) (fun _ h9 => h9) rfl dX10_undo_16 ?_
      have hPc := hP.sub (ws' := [(oc10 sl mc9 (.ref ea) (nI T))]) [1] rfl
      have hDc := hD.sub (ws' := [(oc10 sl mc9 (.ref ea) (nI T))]) [1] (by decide) rfl
      have hFc := va_free (wc := [(oc10 sl mc9 (.ref ea) (nI T))]) hD hS hA [1] rfl
      refine zcall (st1 := [.int (nI T), .int (nI dn)]) (va_runV (As := []) (rest := [.int (nI dn)]) ⟨hx, hb, hml, hown, hts⟩ (k_AL_size l dC dI cI cZ cF s.heap.size sl ea T mc9 ) (cwV 0 hts (zz_gV mw_468 mw_469 mw_470 mw_109 mc_yJx4a65c_size_8abf5) rfl rfl rfl (by decide +kernel) ⟨Nat.le_of_ble_eq_true rfl, Nat.le_of_ble_eq_true rfl⟩) (zPV2 (q0 := 0) (ci := 10) hPc hDc hK3 hXN rfl rfl) rfl rfl hl.1 rfl (lv_room (Nat.le_of_ble_eq_true rfl)) dX10_undo_19 ⟨Nat.le_of_ble_eq_true rfl, Nat.le_of_ble_eq_true rfl⟩) hS hFc hFc rfl (fun t H1 locs ht hB hk1 hS => ?_)
      obtain ⟨hP1, hD1⟩ := hB
      rw [ht] at hP1
      obtain ⟨hP, hD⟩ := va_joinQ (wr := [(oc8 x (.ref sh) (.ref lw) (.ref ro) (.ref bq) (.ref bp) (.ref dq) (.ref dp) (.ref lv) (.ref sl) (nI dn) (nI bs) ul su), (oc7 sh (.ref fa) (nI ft)), (oq fa cF 200 FA), (oq ea cO cap5 SA), (oc11 (sp dn) (wh dn) (of9 dn) (we dn) .null ch5)]) (w1 := [(oc10 sl mc9 (.ref ea) (nI T))]) hP hD [1] [0, 2, 3, 4, 5] rfl rfl (by decide) (by decide) hk1 hFc hP1 hD1
      clear hk1 hPc hDc hFc hP1 hD1 ht
      generalize H1 = H at hP hS ⊢
      have hP := hP.part (cx := [(oc8 x (.ref sh) (.ref lw) (.ref ro) (.ref bq) (.ref bp) (.ref dq) (.ref dp) (.ref lv) (.ref sl) (nI dn) (nI bs) ul su), (oc10 sl mc9 (.ref ea) (nI T)), (oc7 sh (.ref fa) (nI ft)), (oq fa cF 200 FA), (oq ea cO cap5 SA), (oc11 (sp dn) (wh dn) (of9 dn) (we dn) .null ch5)]) [0, 5, 1, 2, 3, 4] rfl
      have hD := hD.part (cx := [(oc8 x (.ref sh) (.ref lw) (.ref ro) (.ref bq) (.ref bp) (.ref dq) (.ref dp) (.ref lv) (.ref sl) (nI dn) (nI bs) ul su), (oc10 sl mc9 (.ref ea) (nI T)), (oc7 sh (.ref fa) (nI ft)), (oq fa cF 200 FA), (oq ea cO cap5 SA), (oc11 (sp dn) (wh dn) (of9 dn) (we dn) .null ch5)]) [0, 5, 1, 2, 3, 4] (by decide) rfl
      have hP : va_P (dC, dI) classes ([(oc8 x (.ref sh) (.ref lw) (.ref ro) (.ref bq) (.ref bp) (.ref dq) (.ref dp) (.ref lv) (.ref sl) (nI dn) (nI bs) ul su), (oc10 sl mc9 (.ref ea) (nI T)), (oc7 sh (.ref fa) (nI ft)), (oq fa cF 200 FA), (oq ea cO cap5 SA), (oc11 (sp dn) (wh dn) (of9 dn) (we dn) .null ch5)] ++ va_pl T_1 f) H := hP
      have hD : va_D A ([(oc8 x (.ref sh) (.ref lw) (.ref ro) (.ref bq) (.ref bp) (.ref dq) (.ref dp) (.ref lv) (.ref sl) (nI dn) (nI bs) ul su), (oc10 sl mc9 (.ref ea) (nI T)), (oc7 sh (.ref fa) (nI ft)), (oq fa cF 200 FA), (oq ea cO cap5 SA), (oc11 (sp dn) (wh dn) (of9 dn) (we dn) .null ch5)] ++ va_pl T_1 f) := hD
      refine lv_icmp_le (tgt := 32) hx hb dX10_undo_22 (by decide) (fun c_2 => ?_) (fun c_2 => ?_)
      · have c_2 : ((dn : Nat) : Int) ≤ ((T : Nat) : Int) := zc_le (nI_toInt (by omega)) (nI_toInt (by omega)) c_2
        refine lv_aload_n hx hb dX10_undo_32 rfl (lv_at hl 0 rfl) ?_
        refine va_get (D := (dC, dI)) (ci := 8) (v := .ref sl) (C := RX10) (T := TX10) (N := 13) hx hb hts inX10 hown hK hP 0 rfl rfl 8 (by decide) (hts _ mw_317) (fun _ h9 => h9) rfl dX10_undo_33 ?_
        refine lv_aload_n hx hb dX10_undo_36 rfl (lv_at hl 0 rfl) ?_
        refine va_get (D := (dC, dI)) (ci := 8) (v := .int (nI dn)) (C := RX10) (T := TX10) (N := 13) hx hb hts inX10 hown hK hP 0 rfl rfl 9 (by decide) (hts _ mw_318) (fun _ h9 => h9) rfl dX10_undo_37 ?_
        refine lv_iconst (v := 1) hx hb dX10_undo_40 (by decide) ?_
        refine lv_isub hx hb dX10_undo_41 ?_
        refine zz_i (v := nI (dn - 1)) (pk_sub (a := dn) (b := 1) (by omega)) ?_
        have hko : ∀ P : Nat → Prop, ¬ P 8001 → ¬ P 8002 → kpT P L f own T_1 f own := fun P h1 h2 => by rw [← hT_1]; exact kp_out (fun c hc => by simp only [List.mem_cons, List.not_mem_nil, or_false] at hc; rcases hc with rfl | rfl; (show ¬ P (own ea); rw [hce5.2.2]; exact h2); (show ¬ P (own (sp dn)); rw [hs2.2.2]; exact h1))
        have hPc := hP.sub (ws' := [(oc10 sl mc9 (.ref ea) (nI T)), (oq ea cO cap5 SA)]) [1, 4] rfl
        have hDc := hD.sub (ws' := [(oc10 sl mc9 (.ref ea) (nI T)), (oq ea cO cap5 SA)]) [1, 4] (by decide) rfl
        have hFc := va_free (wc := [(oc10 sl mc9 (.ref ea) (nI T)), (oq ea cO cap5 SA)]) hD hS hA [1, 4] rfl
        refine zcall (st1 := [.ref (sp dn)]) (va_runV (As := [.int (nI (dn - 1))]) (rest := []) ⟨hx, hb, hml, hown, hts⟩ (k_AL_get l dC dI cI cZ cF H.size cO e0 mi sl ea T mc9 (dn - 1) cap5 (sp dn) SA (hs1) (by omega) (by omega) (by omega) (by omega)) (cwV 1 hts (zz_gV mw_1032 mw_1033 mw_1034 mw_109 mc_yJx4a65c_get_915e3) rfl rfl rfl (by decide +kernel) ⟨Nat.le_of_ble_eq_true rfl, Nat.le_of_ble_eq_true rfl⟩) (zPVL (q0 := 0) (ci := 10) hPc hDc hK hXL hS hFc rfl rfl) rfl rfl hl.1 rfl (lv_room (Nat.le_of_ble_eq_true rfl)) dX10_undo_42 ⟨Nat.le_of_ble_eq_true rfl, Nat.le_of_ble_eq_true rfl⟩) hS hFc hFc rfl (fun t H1 locs ht hB hk1 hS => ?_)
        obtain ⟨hP1, hD1⟩ := hB
        rw [ht] at hP1
        obtain ⟨hP, hD⟩ := va_joinQ (wr := [(oc8 x (.ref sh) (.ref lw) (.ref ro) (.ref bq) (.ref bp) (.ref dq) (.ref dp) (.ref lv) (.ref sl) (nI dn) (nI bs) ul su), (oc7 sh (.ref fa) (nI ft)), (oq fa cF 200 FA), (oc11 (sp dn) (wh dn) (of9 dn) (we dn) .null ch5)]) (w1 := [(oc10 sl mc9 (.ref ea) (nI T)), (oq ea cO cap5 SA)]) hP hD [1, 4] [0, 2, 3, 5] rfl rfl (by decide) (by decide) hk1 hFc hP1 hD1
        clear hk1 hPc hDc hFc hP1 hD1 ht
        generalize H1 = H at hP hS ⊢
        have hP := hP.part (cx := [(oc8 x (.ref sh) (.ref lw) (.ref ro) (.ref bq) (.ref bp) (.ref dq) (.ref dp) (.ref lv) (.ref sl) (nI dn) (nI bs) ul su), (oc10 sl mc9 (.ref ea) (nI T)), (oc7 sh (.ref fa) (nI ft)), (oq fa cF 200 FA), (oq ea cO cap5 SA), (oc11 (sp dn) (wh dn) (of9 dn) (we dn) .null ch5)]) [0, 4, 1, 2, 5, 3] rfl
        have hD := hD.part (cx := [(oc8 x (.ref sh) (.ref lw) (.ref ro) (.ref bq) (.ref bp) (.ref dq) (.ref dp) (.ref lv) (.ref sl) (nI dn) (nI bs) ul su), (oc10 sl mc9 (.ref ea) (nI T)), (oc7 sh (.ref fa) (nI ft)), (oq fa cF 200 FA), (oq ea cO cap5 SA), (oc11 (sp dn) (wh dn) (of9 dn) (we dn) .null ch5)]) [0, 4, 1, 2, 5, 3] (by decide) rfl
        have hP : va_P (dC, dI) classes ([(oc8 x (.ref sh) (.ref lw) (.ref ro) (.ref bq) (.ref bp) (.ref dq) (.ref dp) (.ref lv) (.ref sl) (nI dn) (nI bs) ul su), (oc10 sl mc9 (.ref ea) (nI T)), (oc7 sh (.ref fa) (nI ft)), (oq fa cF 200 FA), (oq ea cO cap5 SA), (oc11 (sp dn) (wh dn) (of9 dn) (we dn) .null ch5)] ++ va_pl T_1 f) H := hP
        have hD : va_D A ([(oc8 x (.ref sh) (.ref lw) (.ref ro) (.ref bq) (.ref bp) (.ref dq) (.ref dp) (.ref lv) (.ref sl) (nI dn) (nI bs) ul su), (oc10 sl mc9 (.ref ea) (nI T)), (oc7 sh (.ref fa) (nI ft)), (oq fa cF 200 FA), (oq ea cO cap5 SA), (oc11 (sp dn) (wh dn) (of9 dn) (we dn) .null ch5)] ++ va_pl T_1 f) := hD
        refine va_castE hx hb hown (hts _ mw_757) (z_cellR (i := 0) hK (hP 5 _ rfl) rfl) dX10_undo_45 ?_
        refine lv_astore_n (lv' := [(1, .ref (sp dn)), (0, .ref x)]) hx hb dX10_undo_48 rfl hl (by decide) rfl (fun ls hl => ?_)
        refine lv_aload_n hx hb dX10_undo_49 rfl (lv_at hl 0 rfl) ?_
        have hPc := hP.part (cx := [(oc11 (sp dn) (wh dn) (of9 dn) (we dn) .null ch5)]) [5] rfl
        have hDc := hD.part (cx := [(oc11 (sp dn) (wh dn) (of9 dn) (we dn) .null ch5)]) [5] (by decide) rfl
        have hFc := va_freeP (cx := [(oc11 (sp dn) (wh dn) (of9 dn) (we dn) .null ch5)]) hD hS hA [5] rfl
        refine zcall (st1 := []) (va_runV (As := []) (rest := []) ⟨hx, hb, hml, hown, hts⟩ (k_Step_takeBack l dC dI cI cZ cF H.size (sp dn) (wh dn) (of9 dn) (we dn) (.null) ch5 own fe cl (la dn) (la (dn - 1)) (la dn) (FT T) qs5 rk wd tw pa pb T_1 f (FeA_kp (hko (fun g => g ≠ 8001 ∧ g ≠ 8002) (by simp) (by simp)) (fun q hq => ⟨⟨by omega, by omega⟩, ⟨by omega, by omega⟩⟩) hG9.1) (chn_kp (hko (fun g => g ≠ 8001 ∧ g ≠ 8002) (by simp) (by simp)) ⟨by omega, by omega⟩ hch5) (fun q hq => Nat.lt_of_lt_of_le (hqs5 q hq) (hN9.2.2.2.1 _ (by omega) (by omega)))) (cwV 0 hts (zz_gV mw_1040 mw_1041 mw_1042 mw_116 mc_yX9_takeBack) rfl rfl rfl (by decide +kernel) ⟨Nat.le_of_ble_eq_true rfl, Nat.le_of_ble_eq_true rfl⟩) (zPV2 (q0 := 0) (ci := 11) hPc hDc hK3 hXN rfl rfl) rfl rfl hl.1 rfl (lv_room (Nat.le_of_ble_eq_true rfl)) dX10_undo_50 ⟨Nat.le_of_ble_eq_true rfl, Nat.le_of_ble_eq_true rfl⟩) hS hFc hFc rfl (fun t H1 locs ht hB hk1 hS => ?_)
        obtain ⟨L7, f7, nw7, hF7, hn7, hk7, hP1, hD1⟩ := hB
        rw [ht] at hP1
        obtain ⟨hP, hD⟩ := va_joinP (wr := [(oc8 x (.ref sh) (.ref lw) (.ref ro) (.ref bq) (.ref bp) (.ref dq) (.ref dp) (.ref lv) (.ref sl) (nI dn) (nI bs) ul su), (oc10 sl mc9 (.ref ea) (nI T)), (oc7 sh (.ref fa) (nI ft)), (oq fa cF 200 FA), (oq ea cO cap5 SA)]) (rx := [(oc11 (sp dn) (wh dn) (of9 dn) (we dn) .null ch5)]) hP hD [5] [0, 1, 2, 3, 4] rfl rfl (by decide) (by decide) hk1 hFc hP1 hD1
        clear hk1 hPc hDc hFc hP1 hD1 ht
        generalize H1 = H at hP hS ⊢
        have hP : va_P (dC, dI) classes ([(oc8 x (.ref sh) (.ref lw) (.ref ro) (.ref bq) (.ref bp) (.ref dq) (.ref dp) (.ref lv) (.ref sl) (nI dn) (nI bs) ul su), (oc10 sl mc9 (.ref ea) (nI T)), (oc7 sh (.ref fa) (nI ft)), (oq fa cF 200 FA), (oq ea cO cap5 SA), (oc11 (sp dn) (wh dn) (of9 dn) (we dn) .null ch5)] ++ va_pl L7 f7) H := hP
        have hD : va_D A ([(oc8 x (.ref sh) (.ref lw) (.ref ro) (.ref bq) (.ref bp) (.ref dq) (.ref dp) (.ref lv) (.ref sl) (nI dn) (nI bs) ul su), (oc10 sl mc9 (.ref ea) (nI T)), (oc7 sh (.ref fa) (nI ft)), (oq fa cF 200 FA), (oq ea cO cap5 SA), (oc11 (sp dn) (wh dn) (of9 dn) (we dn) .null ch5)] ++ va_pl L7 f7) := hD
        refine lv_aload_n hx hb dX10_undo_53 rfl (lv_at hl 0 rfl) ?_
        refine va_get (D := (dC, dI)) (ci := 11) (v := .null) (C := RX9) (T := TX9) (N := 5) hx hb hts inX9 hown hK hP 5 rfl rfl 3 (by decide) (hts _ mw_770) (fun _ h9 => h9) rfl dX10_undo_54 ?_
        refine lv_ifnullN (tgt := 67) hx hb dX10_undo_57 (by decide) ?_
        refine lv_aload_n hx hb dX10_undo_67 rfl (lv_at hl 1 rfl) ?_
        refine lv_dup hx hb dX10_undo_68 rfl ?_
        refine va_get (D := (dC, dI)) (ci := 8) (v := .int (nI dn)) (C := RX10) (T := TX10) (N := 13) hx hb hts inX10 hown hK hP 0 rfl rfl 9 (by decide) (hts _ mw_318) (fun _ h9 => h9) rfl dX10_undo_69 ?_
        refine lv_iconst (v := 1) hx hb dX10_undo_72 (by decide) ?_
        refine lv_isub hx hb dX10_undo_73 ?_
        refine zz_i (v := nI (dn - 1)) (pk_sub (a := dn) (b := 1) (by omega)) ?_
        refine va_put (D := (dC, dI)) (ci := 8) (v := .int (nI (dn - 1))) (ty := .int) (C := RX10) (T := TX10) (N := 13) hx hb hts inX10 tyX10 tyX10_ok nmX10 hown hK hP hD hS 0 rfl rfl 9 (by decide) (hts _ mw_318) (fun _ h9 => h9) rfl (by decide +kernel) rfl rfl (Nat.le_of_ble_eq_true rfl) dX10_undo_74 (fun H locs hP hD hS => ?_)
        have hP : va_P (dC, dI) classes ([(oc8 x (.ref sh) (.ref lw) (.ref ro) (.ref bq) (.ref bp) (.ref dq) (.ref dp) (.ref lv) (.ref sl) (nI (dn - 1)) (nI bs) ul su), (oc10 sl mc9 (.ref ea) (nI T)), (oc7 sh (.ref fa) (nI ft)), (oq fa cF 200 FA), (oq ea cO cap5 SA), (oc11 (sp dn) (wh dn) (of9 dn) (we dn) .null ch5)] ++ va_pl L7 f7) H := hP
        have hD : va_D A ([(oc8 x (.ref sh) (.ref lw) (.ref ro) (.ref bq) (.ref bp) (.ref dq) (.ref dp) (.ref lv) (.ref sl) (nI (dn - 1)) (nI bs) ul su), (oc10 sl mc9 (.ref ea) (nI T)), (oc7 sh (.ref fa) (nI ft)), (oq fa cF 200 FA), (oq ea cO cap5 SA), (oc11 (sp dn) (wh dn) (of9 dn) (we dn) .null ch5)] ++ va_pl L7 f7) := hD
        refine lv_aload_n hx hb dX10_undo_77 rfl (lv_at hl 1 rfl) ?_
        refine lv_iconst (v := 0) hx hb dX10_undo_78 (by decide) ?_
        refine va_put (D := (dC, dI)) (ci := 8) (v := .int 0) (ty := .int) (C := RX10) (T := TX10) (N := 13) hx hb hts inX10 tyX10 tyX10_ok nmX10 hown hK hP hD hS 0 rfl rfl 12 (by decide) (hts _ mw_321) (fun _ h9 => h9) rfl (by decide +kernel) rfl rfl (Nat.le_of_ble_eq_true rfl) dX10_undo_79 (fun H locs hP hD hS => ?_)
        have hP : va_P (dC, dI) classes ([(oc8 x (.ref sh) (.ref lw) (.ref ro) (.ref bq) (.ref bp) (.ref dq) (.ref dp) (.ref lv) (.ref sl) (nI (dn - 1)) (nI bs) ul 0), (oc10 sl mc9 (.ref ea) (nI T)), (oc7 sh (.ref fa) (nI ft)), (oq fa cF 200 FA), (oq ea cO cap5 SA), (oc11 (sp dn) (wh dn) (of9 dn) (we dn) .null ch5)] ++ va_pl L7 f7) H := hP
        have hD : va_D A ([(oc8 x (.ref sh) (.ref lw) (.ref ro) (.ref bq) (.ref bp) (.ref dq) (.ref dp) (.ref lv) (.ref sl) (nI (dn - 1)) (nI bs) ul 0), (oc10 sl mc9 (.ref ea) (nI T)), (oc7 sh (.ref fa) (nI ft)), (oq fa cF 200 FA), (oq ea cO cap5 SA), (oc11 (sp dn) (wh dn) (of9 dn) (we dn) .null ch5)] ++ va_pl L7 f7) := hD
        refine lv_aload_n hx hb dX10_undo_82 rfl (lv_at hl 1 rfl) ?_
        refine va_get (D := (dC, dI)) (ci := 8) (v := .int (nI (dn - 1))) (C := RX10) (T := TX10) (N := 13) hx hb hts inX10 hown hK hP 0 rfl rfl 9 (by decide) (hts _ mw_318) (fun _ h9 => h9) rfl dX10_undo_83 ?_
        refine lv_iconst (v := 1) hx hb dX10_undo_86 (by decide) ?_
        refine lv_iadd hx hb dX10_undo_87 ?_
        refine zz_i (v := nI ((dn - 1) + 1)) (nI_add (dn - 1) 1) ?_
        have hP : va_P (dC, dI) classes (([(oc8 x (.ref sh) (.ref lw) (.ref ro) (.ref bq) (.ref bp) (.ref dq) (.ref dp) (.ref lv) (.ref sl) (nI (dn - 1)) (nI bs) ul 0), (oc10 sl mc9 (.ref ea) (nI T)), (oc7 sh (.ref fa) (nI ft)), (oq fa cF 200 FA)] ++ [(oq ea cO cap5 SA), (oc11 (sp dn) (wh dn) (of9 dn) (we dn) .null ch5)]) ++ va_pl L7 f7) H := hP
        have hD : va_D A (([(oc8 x (.ref sh) (.ref lw) (.ref ro) (.ref bq) (.ref bp) (.ref dq) (.ref dp) (.ref lv) (.ref sl) (nI (dn - 1)) (nI bs) ul 0), (oc10 sl mc9 (.ref ea) (nI T)), (oc7 sh (.ref fa) (nI ft)), (oq fa cF 200 FA)] ++ [(oq ea cO cap5 SA), (oc11 (sp dn) (wh dn) (of9 dn) (we dn) .null ch5)]) ++ va_pl L7 f7) := hD
        obtain ⟨Lp2, fp2, hP, hD, hpin_2⟩ := pl_pin (cs := []) (old := []) (new := [(oq ea cO cap5 SA), (oc11 (sp dn) (wh dn) (of9 dn) (we dn) .null ch5)]) (cs1 := [(oq ea cO cap5 SA), (oc11 (sp dn) (wh dn) (of9 dn) (we dn) .null ch5)]) (X := [(oc8 x (.ref sh) (.ref lw) (.ref ro) (.ref bq) (.ref bp) (.ref dq) (.ref dp) (.ref lv) (.ref sl) (nI (dn - 1)) (nI bs) ul 0), (oc10 sl mc9 (.ref ea) (nI T)), (oc7 sh (.ref fa) (nI ft)), (oq fa cF 200 FA)]) (L := L7) (f := f7) rfl rfl (by rw [outPl_nil]; exact hP) (by rw [outPl_nil]; exact hD)
        obtain ⟨hfr_2, hkp_2, hce_2, hsx_2, hpw_2⟩ := id hpin_2
        have hk79 : kpT (fun g => ¬ g % 8 = 0) L f own Lp2 fp2 own := kp_re (cs := [(ea, .inl (cO, cap5, .inr (.inr (.inr (.inr SA))))), (sp dn, .inr (11, [.int (wh dn), .int (of9 dn), .int (we dn), .null, ch5]))]) (by rw [hT_1]; exact hk7) (hkp_2 own own _ (fun _ _ => rfl) trivial) (fun c hc g e h => by simp only [List.mem_cons, List.not_mem_nil, or_false] at hc; rcases hc with rfl | rfl; (obtain ⟨e1, e2⟩ := ce_eq h hce5; rw [e1, e2]; exact hce_2 own 0 _ _ _ rfl hce5.2.2); (obtain ⟨e1, e2⟩ := ce_eq h hs2; rw [e1, e2]; exact hce_2 own 1 _ _ _ rfl hs2.2.2))
        have hF79 : FeA cI Lp2 fp2 own (FT T) fe (la (dn - 1)) cl (fun _ => .null) rk wd tw pa pb := FeA_cg (FeA_kp (hkp_2 own own (fun _ => True) (fun _ _ => rfl) trivial) (fun _ _ => ⟨trivial, trivial⟩) hF7) (fun q hq => by by_cases m : q ∈ qs5; exact ((hn7 q).1 m).symm; rw [(hn7 q).2 m]; exact hql5 q hq m)
        have hB6 := U_pos (FA1 := FA) (ft1 := FT (dn - 1)) hF79 hk79 hG9 hH9 hft9 (by omega) (by omega) rfl (fun q hq => hFA9 q (by omega)) hc
        have hP9 := hP.part (cx := [(oc8 x (.ref sh) (.ref lw) (.ref ro) (.ref bq) (.ref bp) (.ref dq) (.ref dp) (.ref lv) (.ref sl) (nI (dn - 1)) (nI bs) ul 0), (oc10 sl mc9 (.ref ea) (nI T)), (oc7 sh (.ref fa) (nI ft)), (oq fa cF 200 FA)]) [0, 1, 2, 3] rfl
        have hD9 := hD.part (cx := [(oc8 x (.ref sh) (.ref lw) (.ref ro) (.ref bq) (.ref bp) (.ref dq) (.ref dp) (.ref lv) (.ref sl) (nI (dn - 1)) (nI bs) ul 0), (oc10 sl mc9 (.ref ea) (nI T)), (oc7 sh (.ref fa) (nI ft)), (oq fa cF 200 FA)]) [0, 1, 2, 3] (by decide) rfl
        have hE9 : (([(oc8 x (.ref sh) (.ref lw) (.ref ro) (.ref bq) (.ref bp) (.ref dq) (.ref dp) (.ref lv) (.ref sl) (nI (dn - 1)) (nI bs) ul 0), (oc10 sl mc9 (.ref ea) (nI T)), (oc7 sh (.ref fa) (nI ft)), (oq fa cF 200 FA)] ++ va_pl Lp2 fp2) : va_W) = ([(oc8 x (.ref sh) (.ref lw) (.ref ro) (.ref bq) (.ref bp) (.ref dq) (.ref dp) (.ref lv) (.ref sl) (nI (dn - 1)) (nI bs) ul 0), (oc10 sl mc9 (.ref ea) (nI T)), (oc7 sh (.ref fa) (nI (FT (dn - 1)))), (oq fa cF 200 FA)] ++ va_pl Lp2 fp2) := by rw [show ft = FT (dn - 1) by omega]
        rw [hE9] at hP9 hD9
        rw [hQ9]
        exact W.iret (v := nI ((dn - 1) + 1)) hx hb hr (fun t ht hW => ⟨⟨rfl, Lp2, fp2, FA, (hB6), by rw [ht]; exact hP9, hD9⟩, hS.F ht⟩) hS.2.2 dX10_undo_88
      · have c_2 : ((T : Nat) : Int) < ((dn : Nat) : Int) := zc_nle (nI_toInt (by omega)) (nI_toInt (by omega)) c_2
        exfalso; omega
  · skip
    subst hm5
    have hc9_1 : inPl L f [(oq ea cO cap5 SA), (oc11 (sp dn) (wh dn) (of9 dn) (we dn) (.ref (fe (FT (dn - 1)))) ch5)] := ⟨ce_pl hce5, ce_pl hs2, trivial⟩
    have hD0_1 := hD
    obtain ⟨hP, hD⟩ := pl_out hP hD [(oq ea cO cap5 SA), (oc11 (sp dn) (wh dn) (of9 dn) (we dn) (.ref (fe (FT (dn - 1)))) ch5)] hc9_1 (pw2 (ca_ne hs2.2.1 hce5.2.1).symm)
    generalize hT_1 : outPl L [(oq ea cO cap5 SA), (oc11 (sp dn) (wh dn) (of9 dn) (we dn) (.ref (fe (FT (dn - 1)))) ch5)] = T_1 at hP hD
    have hP : va_P (dC, dI) classes ([(oc8 x (.ref sh) (.ref lw) (.ref ro) (.ref bq) (.ref bp) (.ref dq) (.ref dp) (.ref lv) (.ref sl) (nI dn) (nI bs) ul su), (oc10 sl mc9 (.ref ea) (nI T)), (oc7 sh (.ref fa) (nI ft)), (oq fa cF 200 FA), (oq ea cO cap5 SA), (oc11 (sp dn) (wh dn) (of9 dn) (we dn) (.ref (fe (FT (dn - 1)))) ch5)] ++ va_pl T_1 f) s.heap := hP
    have hD : va_D A ([(oc8 x (.ref sh) (.ref lw) (.ref ro) (.ref bq) (.ref bp) (.ref dq) (.ref dp) (.ref lv) (.ref sl) (nI dn) (nI bs) ul su), (oc10 sl mc9 (.ref ea) (nI T)), (oc7 sh (.ref fa) (nI ft)), (oq fa cF 200 FA), (oq ea cO cap5 SA), (oc11 (sp dn) (wh dn) (of9 dn) (we dn) (.ref (fe (FT (dn - 1)))) ch5)] ++ va_pl T_1 f) := hD
    refine lv_aload_n hx hb dX10_undo_0 rfl (lv_at hl 0 rfl) ?_
    refine va_get (D := (dC, dI)) (ci := 8) (v := .int (nI dn)) (C := RX10) (T := TX10) (N := 13) hx hb hts inX10 hown hK hP 0 rfl rfl 9 (by decide) (hts _ mw_318) (fun _ h9 => h9) rfl dX10_undo_1 ?_
    refine lv_aload_n hx hb dX10_undo_4 rfl (lv_at hl 0 rfl) ?_
    refine va_get (D := (dC, dI)) (ci := 8) (v := .int (nI bs)) (C := RX10) (T := TX10) (N := 13) hx hb hts inX10 hown hK hP 0 rfl rfl 10 (by decide) (hts _ mw_319) (fun _ h9 => h9) rfl dX10_undo_5 ?_
    refine lv_icmp_le (tgt := 25) hx hb dX10_undo_8 (by decide) (fun c_3 => ?_) (fun c_3 => ?_)
    · have c_3 : ((dn : Nat) : Int) ≤ ((bs : Nat) : Int) := zc_le (nI_toInt (by omega)) (nI_toInt (by omega)) c_3
      exfalso; omega
    · have c_3 : ((bs : Nat) : Int) < ((dn : Nat) : Int) := zc_nle (nI_toInt (by omega)) (nI_toInt (by omega)) c_3
      refine lv_aload_n hx hb dX10_undo_11 rfl (lv_at hl 0 rfl) ?_
      refine va_get (D := (dC, dI)) (ci := 8) (v := .int (nI dn)) (C := RX10) (T := TX10) (N := 13) hx hb hts inX10 hown hK hP 0 rfl rfl 9 (by decide) (hts _ mw_318) (fun _ h9 => h9) rfl dX10_undo_12 ?_
      refine lv_aload_n hx hb dX10_undo_15 rfl (lv_at hl 0 rfl) ?_
      refine va_get (D := (dC, dI)) (ci := 8) (v := .ref sl) (C := RX10) (T := TX10) (N := 13) hx hb hts inX10 hown hK hP 0 rfl rfl 8 (by decide) (hts _ mw_317) (fun _ h9 => h9) rfl dX10_undo_16 ?_
      have hPc := hP.sub (ws' := [(oc10 sl mc9 (.ref ea) (nI T))]) [1] rfl
      have hDc := hD.sub (ws' := [(oc10 sl mc9 (.ref ea) (nI T))]) [1] (by decide) rfl
      have hFc := va_free (wc := [(oc10 sl mc9 (.ref ea) (nI T))]) hD hS hA [1] rfl
      refine zcall (st1 := [.int (nI T), .int (nI dn)]) (va_runV (As := []) (rest := [.int (nI dn)]) ⟨hx, hb, hml, hown, hts⟩ (k_AL_size l dC dI cI cZ cF s.heap.size sl ea T mc9 ) (cwV 0 hts (zz_gV mw_468 mw_469 mw_470 mw_109 mc_yJx4a65c_size_8abf5) rfl rfl rfl (by decide +kernel) ⟨Nat.le_of_ble_eq_true rfl, Nat.le_of_ble_eq_true rfl⟩) (zPV2 (q0 := 0) (ci := 10) hPc hDc hK3 hXN rfl rfl) rfl rfl hl.1 rfl (lv_room (Nat.le_of_ble_eq_true rfl)) dX10_undo_19 ⟨Nat.le_of_ble_eq_true rfl, Nat.le_of_ble_eq_true rfl⟩) hS hFc hFc rfl (fun t H1 locs ht hB hk1 hS => ?_)
      obtain ⟨hP1, hD1⟩ := hB
      rw [ht] at hP1
      obtain ⟨hP, hD⟩ := va_joinQ (wr := [(oc8 x (.ref sh) (.ref lw) (.ref ro) (.ref bq) (.ref bp) (.ref dq) (.ref dp) (.ref lv) (.ref sl) (nI dn) (nI bs) ul su), (oc7 sh (.ref fa) (nI ft)), (oq fa cF 200 FA), (oq ea cO cap5 SA), (oc11 (sp dn) (wh dn) (of9 dn) (we dn) (.ref (fe (FT (dn - 1)))) ch5)]) (w1 := [(oc10 sl mc9 (.ref ea) (nI T))]) hP hD [1] [0, 2, 3, 4, 5] rfl rfl (by decide) (by decide) hk1 hFc hP1 hD1
      clear hk1 hPc hDc hFc hP1 hD1 ht
      generalize H1 = H at hP hS ⊢
      have hP := hP.part (cx := [(oc8 x (.ref sh) (.ref lw) (.ref ro) (.ref bq) (.ref bp) (.ref dq) (.ref dp) (.ref lv) (.ref sl) (nI dn) (nI bs) ul su), (oc10 sl mc9 (.ref ea) (nI T)), (oc7 sh (.ref fa) (nI ft)), (oq fa cF 200 FA), (oq ea cO cap5 SA), (oc11 (sp dn) (wh dn) (of9 dn) (we dn) (.ref (fe (FT (dn - 1)))) ch5)]) [0, 5, 1, 2, 3, 4] rfl
      have hD := hD.part (cx := [(oc8 x (.ref sh) (.ref lw) (.ref ro) (.ref bq) (.ref bp) (.ref dq) (.ref dp) (.ref lv) (.ref sl) (nI dn) (nI bs) ul su), (oc10 sl mc9 (.ref ea) (nI T)), (oc7 sh (.ref fa) (nI ft)), (oq fa cF 200 FA), (oq ea cO cap5 SA), (oc11 (sp dn) (wh dn) (of9 dn) (we dn) (.ref (fe (FT (dn - 1)))) ch5)]) [0, 5, 1, 2, 3, 4] (by decide) rfl
      have hP : va_P (dC, dI) classes ([(oc8 x (.ref sh) (.ref lw) (.ref ro) (.ref bq) (.ref bp) (.ref dq) (.ref dp) (.ref lv) (.ref sl) (nI dn) (nI bs) ul su), (oc10 sl mc9 (.ref ea) (nI T)), (oc7 sh (.ref fa) (nI ft)), (oq fa cF 200 FA), (oq ea cO cap5 SA), (oc11 (sp dn) (wh dn) (of9 dn) (we dn) (.ref (fe (FT (dn - 1)))) ch5)] ++ va_pl T_1 f) H := hP
      have hD : va_D A ([(oc8 x (.ref sh) (.ref lw) (.ref ro) (.ref bq) (.ref bp) (.ref dq) (.ref dp) (.ref lv) (.ref sl) (nI dn) (nI bs) ul su), (oc10 sl mc9 (.ref ea) (nI T)), (oc7 sh (.ref fa) (nI ft)), (oq fa cF 200 FA), (oq ea cO cap5 SA), (oc11 (sp dn) (wh dn) (of9 dn) (we dn) (.ref (fe (FT (dn - 1)))) ch5)] ++ va_pl T_1 f) := hD
      refine lv_icmp_le (tgt := 32) hx hb dX10_undo_22 (by decide) (fun c_4 => ?_) (fun c_4 => ?_)
      · have c_4 : ((dn : Nat) : Int) ≤ ((T : Nat) : Int) := zc_le (nI_toInt (by omega)) (nI_toInt (by omega)) c_4
        refine lv_aload_n hx hb dX10_undo_32 rfl (lv_at hl 0 rfl) ?_
        refine va_get (D := (dC, dI)) (ci := 8) (v := .ref sl) (C := RX10) (T := TX10) (N := 13) hx hb hts inX10 hown hK hP 0 rfl rfl 8 (by decide) (hts _ mw_317) (fun _ h9 => h9) rfl dX10_undo_33 ?_
        refine lv_aload_n hx hb dX10_undo_36 rfl (lv_at hl 0 rfl) ?_
        refine va_get (D := (dC, dI)) (ci := 8) (v := .int (nI dn)) (C := RX10) (T := TX10) (N := 13) hx hb hts inX10 hown hK hP 0 rfl rfl 9 (by decide) (hts _ mw_318) (fun _ h9 => h9) rfl dX10_undo_37 ?_
        refine lv_iconst (v := 1) hx hb dX10_undo_40 (by decide) ?_
        refine lv_isub hx hb dX10_undo_41 ?_
        refine zz_i (v := nI (dn - 1)) (pk_sub (a := dn) (b := 1) (by omega)) ?_
        have hko : ∀ P : Nat → Prop, ¬ P 8001 → ¬ P 8002 → kpT P L f own T_1 f own := fun P h1 h2 => by rw [← hT_1]; exact kp_out (fun c hc => by simp only [List.mem_cons, List.not_mem_nil, or_false] at hc; rcases hc with rfl | rfl; (show ¬ P (own ea); rw [hce5.2.2]; exact h2); (show ¬ P (own (sp dn)); rw [hs2.2.2]; exact h1))
        have hPc := hP.sub (ws' := [(oc10 sl mc9 (.ref ea) (nI T)), (oq ea cO cap5 SA)]) [1, 4] rfl
        have hDc := hD.sub (ws' := [(oc10 sl mc9 (.ref ea) (nI T)), (oq ea cO cap5 SA)]) [1, 4] (by decide) rfl
        have hFc := va_free (wc := [(oc10 sl mc9 (.ref ea) (nI T)), (oq ea cO cap5 SA)]) hD hS hA [1, 4] rfl
        refine zcall (st1 := [.ref (sp dn)]) (va_runV (As := [.int (nI (dn - 1))]) (rest := []) ⟨hx, hb, hml, hown, hts⟩ (k_AL_get l dC dI cI cZ cF H.size cO e0 mi sl ea T mc9 (dn - 1) cap5 (sp dn) SA (hs1) (by omega) (by omega) (by omega) (by omega)) (cwV 1 hts (zz_gV mw_1032 mw_1033 mw_1034 mw_109 mc_yJx4a65c_get_915e3) rfl rfl rfl (by decide +kernel) ⟨Nat.le_of_ble_eq_true rfl, Nat.le_of_ble_eq_true rfl⟩) (zPVL (q0 := 0) (ci := 10) hPc hDc hK hXL hS hFc rfl rfl) rfl rfl hl.1 rfl (lv_room (Nat.le_of_ble_eq_true rfl)) dX10_undo_42 ⟨Nat.le_of_ble_eq_true rfl, Nat.le_of_ble_eq_true rfl⟩) hS hFc hFc rfl (fun t H1 locs ht hB hk1 hS => ?_)
        obtain ⟨hP1, hD1⟩ := hB
        rw [ht] at hP1
        obtain ⟨hP, hD⟩ := va_joinQ (wr := [(oc8 x (.ref sh) (.ref lw) (.ref ro) (.ref bq) (.ref bp) (.ref dq) (.ref dp) (.ref lv) (.ref sl) (nI dn) (nI bs) ul su), (oc7 sh (.ref fa) (nI ft)), (oq fa cF 200 FA), (oc11 (sp dn) (wh dn) (of9 dn) (we dn) (.ref (fe (FT (dn - 1)))) ch5)]) (w1 := [(oc10 sl mc9 (.ref ea) (nI T)), (oq ea cO cap5 SA)]) hP hD [1, 4] [0, 2, 3, 5] rfl rfl (by decide) (by decide) hk1 hFc hP1 hD1
        clear hk1 hPc hDc hFc hP1 hD1 ht
        generalize H1 = H at hP hS ⊢
        have hP := hP.part (cx := [(oc8 x (.ref sh) (.ref lw) (.ref ro) (.ref bq) (.ref bp) (.ref dq) (.ref dp) (.ref lv) (.ref sl) (nI dn) (nI bs) ul su), (oc10 sl mc9 (.ref ea) (nI T)), (oc7 sh (.ref fa) (nI ft)), (oq fa cF 200 FA), (oq ea cO cap5 SA), (oc11 (sp dn) (wh dn) (of9 dn) (we dn) (.ref (fe (FT (dn - 1)))) ch5)]) [0, 4, 1, 2, 5, 3] rfl
        have hD := hD.part (cx := [(oc8 x (.ref sh) (.ref lw) (.ref ro) (.ref bq) (.ref bp) (.ref dq) (.ref dp) (.ref lv) (.ref sl) (nI dn) (nI bs) ul su), (oc10 sl mc9 (.ref ea) (nI T)), (oc7 sh (.ref fa) (nI ft)), (oq fa cF 200 FA), (oq ea cO cap5 SA), (oc11 (sp dn) (wh dn) (of9 dn) (we dn) (.ref (fe (FT (dn - 1)))) ch5)]) [0, 4, 1, 2, 5, 3] (by decide) rfl
        have hP : va_P (dC, dI) classes ([(oc8 x (.ref sh) (.ref lw) (.ref ro) (.ref bq) (.ref bp) (.ref dq) (.ref dp) (.ref lv) (.ref sl) (nI dn) (nI bs) ul su), (oc10 sl mc9 (.ref ea) (nI T)), (oc7 sh (.ref fa) (nI ft)), (oq fa cF 200 FA), (oq ea cO cap5 SA), (oc11 (sp dn) (wh dn) (of9 dn) (we dn) (.ref (fe (FT (dn - 1)))) ch5)] ++ va_pl T_1 f) H := hP
        have hD : va_D A ([(oc8 x (.ref sh) (.ref lw) (.ref ro) (.ref bq) (.ref bp) (.ref dq) (.ref dp) (.ref lv) (.ref sl) (nI dn) (nI bs) ul su), (oc10 sl mc9 (.ref ea) (nI T)), (oc7 sh (.ref fa) (nI ft)), (oq fa cF 200 FA), (oq ea cO cap5 SA), (oc11 (sp dn) (wh dn) (of9 dn) (we dn) (.ref (fe (FT (dn - 1)))) ch5)] ++ va_pl T_1 f) := hD
        refine va_castE hx hb hown (hts _ mw_757) (z_cellR (i := 0) hK (hP 5 _ rfl) rfl) dX10_undo_45 ?_
        refine lv_astore_n (lv' := [(1, .ref (sp dn)), (0, .ref x)]) hx hb dX10_undo_48 rfl hl (by decide) rfl (fun ls hl => ?_)
        refine lv_aload_n hx hb dX10_undo_49 rfl (lv_at hl 0 rfl) ?_
        have hPc := hP.part (cx := [(oc11 (sp dn) (wh dn) (of9 dn) (we dn) (.ref (fe (FT (dn - 1)))) ch5)]) [5] rfl
        have hDc := hD.part (cx := [(oc11 (sp dn) (wh dn) (of9 dn) (we dn) (.ref (fe (FT (dn - 1)))) ch5)]) [5] (by decide) rfl
        have hFc := va_freeP (cx := [(oc11 (sp dn) (wh dn) (of9 dn) (we dn) (.ref (fe (FT (dn - 1)))) ch5)]) hD hS hA [5] rfl
        refine zcall (st1 := []) (va_runV (As := []) (rest := []) ⟨hx, hb, hml, hown, hts⟩ (k_Step_takeBack l dC dI cI cZ cF H.size (sp dn) (wh dn) (of9 dn) (we dn) (.ref (fe (FT (dn - 1)))) ch5 own fe cl (la dn) (la (dn - 1)) (la dn) (FT T) qs5 rk wd tw pa pb T_1 f (FeA_kp (hko (fun g => g ≠ 8001 ∧ g ≠ 8002) (by simp) (by simp)) (fun q hq => ⟨⟨by omega, by omega⟩, ⟨by omega, by omega⟩⟩) hG9.1) (chn_kp (hko (fun g => g ≠ 8001 ∧ g ≠ 8002) (by simp) (by simp)) ⟨by omega, by omega⟩ hch5) (fun q hq => Nat.lt_of_lt_of_le (hqs5 q hq) (hN9.2.2.2.1 _ (by omega) (by omega)))) (cwV 0 hts (zz_gV mw_1040 mw_1041 mw_1042 mw_116 mc_yX9_takeBack) rfl rfl rfl (by decide +kernel) ⟨Nat.le_of_ble_eq_true rfl, Nat.le_of_ble_eq_true rfl⟩) (zPV2 (q0 := 0) (ci := 11) hPc hDc hK3 hXN rfl rfl) rfl rfl hl.1 rfl (lv_room (Nat.le_of_ble_eq_true rfl)) dX10_undo_50 ⟨Nat.le_of_ble_eq_true rfl, Nat.le_of_ble_eq_true rfl⟩) hS hFc hFc rfl (fun t H1 locs ht hB hk1 hS => ?_)
        obtain ⟨L7, f7, nw7, hF7, hn7, hk7, hP1, hD1⟩ := hB
        rw [ht] at hP1
        obtain ⟨hP, hD⟩ := va_joinP (wr := [(oc8 x (.ref sh) (.ref lw) (.ref ro) (.ref bq) (.ref bp) (.ref dq) (.ref dp) (.ref lv) (.ref sl) (nI dn) (nI bs) ul su), (oc10 sl mc9 (.ref ea) (nI T)), (oc7 sh (.ref fa) (nI ft)), (oq fa cF 200 FA), (oq ea cO cap5 SA)]) (rx := [(oc11 (sp dn) (wh dn) (of9 dn) (we dn) (.ref (fe (FT (dn - 1)))) ch5)]) hP hD [5] [0, 1, 2, 3, 4] rfl rfl (by decide) (by decide) hk1 hFc hP1 hD1
        clear hk1 hPc hDc hFc hP1 hD1 ht
        generalize H1 = H at hP hS ⊢
        have hP : va_P (dC, dI) classes ([(oc8 x (.ref sh) (.ref lw) (.ref ro) (.ref bq) (.ref bp) (.ref dq) (.ref dp) (.ref lv) (.ref sl) (nI dn) (nI bs) ul su), (oc10 sl mc9 (.ref ea) (nI T)), (oc7 sh (.ref fa) (nI ft)), (oq fa cF 200 FA), (oq ea cO cap5 SA), (oc11 (sp dn) (wh dn) (of9 dn) (we dn) (.ref (fe (FT (dn - 1)))) ch5)] ++ va_pl L7 f7) H := hP
        have hD : va_D A ([(oc8 x (.ref sh) (.ref lw) (.ref ro) (.ref bq) (.ref bp) (.ref dq) (.ref dp) (.ref lv) (.ref sl) (nI dn) (nI bs) ul su), (oc10 sl mc9 (.ref ea) (nI T)), (oc7 sh (.ref fa) (nI ft)), (oq fa cF 200 FA), (oq ea cO cap5 SA), (oc11 (sp dn) (wh dn) (of9 dn) (we dn) (.ref (fe (FT (dn - 1)))) ch5)] ++ va_pl L7 f7) := hD
        refine lv_aload_n hx hb dX10_undo_53 rfl (lv_at hl 0 rfl) ?_
        refine va_get (D := (dC, dI)) (ci := 11) (v := .ref (fe (FT (dn - 1)))) (C := RX9) (T := TX9) (N := 5) hx hb hts inX9 hown hK hP 5 rfl rfl 3 (by decide) (hts _ mw_770) (fun _ h9 => h9) rfl dX10_undo_54 ?_
        refine lv_ifnull hx hb dX10_undo_57 ?_
        refine lv_aload_n hx hb dX10_undo_60 rfl (lv_at hl 1 rfl) ?_
        refine va_get (D := (dC, dI)) (ci := 8) (v := .ref sh) (C := RX10) (T := TX10) (N := 13) hx hb hts inX10 hown hK hP 0 rfl rfl 0 (by decide) (hts _ mw_309) (fun _ h9 => h9) rfl dX10_undo_61 ?_
        have hPc := hP.sub (ws' := [(oc7 sh (.ref fa) (nI ft)), (oq fa cF 200 FA)]) [2, 3] rfl
        have hDc := hD.sub (ws' := [(oc7 sh (.ref fa) (nI ft)), (oq fa cF 200 FA)]) [2, 3] (by decide) rfl
        have hFc := va_free (wc := [(oc7 sh (.ref fa) (nI ft)), (oq fa cF 200 FA)]) hD hS hA [2, 3] rfl
        refine zcall (st1 := []) (va_runV (As := []) (rest := []) ⟨hx, hb, hml, hown, hts⟩ (k_Sheet_removeLast l dC dI cI cZ cF H.size sh fa ft FA (by omega) (by omega)) (cwV 0 hts (zz_gV mw_1044 mw_1045 mw_1046 mw_100 mc_yX8_removeLast) rfl rfl rfl (by decide +kernel) ⟨Nat.le_of_ble_eq_true rfl, Nat.le_of_ble_eq_true rfl⟩) (zPV2 (q0 := 0) (ci := 7) hPc hDc hK3 hXN rfl rfl) rfl rfl hl.1 rfl (lv_room (Nat.le_of_ble_eq_true rfl)) dX10_undo_64 ⟨Nat.le_of_ble_eq_true rfl, Nat.le_of_ble_eq_true rfl⟩) hS hFc hFc rfl (fun t H1 locs ht hB hk1 hS => ?_)
        obtain ⟨hP1, hD1⟩ := hB
        rw [ht] at hP1
        obtain ⟨hP, hD⟩ := va_joinQ (wr := [(oc8 x (.ref sh) (.ref lw) (.ref ro) (.ref bq) (.ref bp) (.ref dq) (.ref dp) (.ref lv) (.ref sl) (nI dn) (nI bs) ul su), (oc10 sl mc9 (.ref ea) (nI T)), (oq ea cO cap5 SA), (oc11 (sp dn) (wh dn) (of9 dn) (we dn) (.ref (fe (FT (dn - 1)))) ch5)]) (w1 := [(oc7 sh (.ref fa) (nI (ft - 1))), (oq fa cF 200 FA)]) hP hD [2, 3] [0, 1, 4, 5] rfl rfl (by decide) (by decide) hk1 hFc hP1 hD1
        clear hk1 hPc hDc hFc hP1 hD1 ht
        generalize H1 = H at hP hS ⊢
        have hP := hP.part (cx := [(oc8 x (.ref sh) (.ref lw) (.ref ro) (.ref bq) (.ref bp) (.ref dq) (.ref dp) (.ref lv) (.ref sl) (nI dn) (nI bs) ul su), (oc10 sl mc9 (.ref ea) (nI T)), (oc7 sh (.ref fa) (nI (ft - 1))), (oq fa cF 200 FA), (oq ea cO cap5 SA), (oc11 (sp dn) (wh dn) (of9 dn) (we dn) (.ref (fe (FT (dn - 1)))) ch5)]) [0, 1, 4, 5, 2, 3] rfl
        have hD := hD.part (cx := [(oc8 x (.ref sh) (.ref lw) (.ref ro) (.ref bq) (.ref bp) (.ref dq) (.ref dp) (.ref lv) (.ref sl) (nI dn) (nI bs) ul su), (oc10 sl mc9 (.ref ea) (nI T)), (oc7 sh (.ref fa) (nI (ft - 1))), (oq fa cF 200 FA), (oq ea cO cap5 SA), (oc11 (sp dn) (wh dn) (of9 dn) (we dn) (.ref (fe (FT (dn - 1)))) ch5)]) [0, 1, 4, 5, 2, 3] (by decide) rfl
        have hP : va_P (dC, dI) classes ([(oc8 x (.ref sh) (.ref lw) (.ref ro) (.ref bq) (.ref bp) (.ref dq) (.ref dp) (.ref lv) (.ref sl) (nI dn) (nI bs) ul su), (oc10 sl mc9 (.ref ea) (nI T)), (oc7 sh (.ref fa) (nI (ft - 1))), (oq fa cF 200 FA), (oq ea cO cap5 SA), (oc11 (sp dn) (wh dn) (of9 dn) (we dn) (.ref (fe (FT (dn - 1)))) ch5)] ++ va_pl L7 f7) H := hP
        have hD : va_D A ([(oc8 x (.ref sh) (.ref lw) (.ref ro) (.ref bq) (.ref bp) (.ref dq) (.ref dp) (.ref lv) (.ref sl) (nI dn) (nI bs) ul su), (oc10 sl mc9 (.ref ea) (nI T)), (oc7 sh (.ref fa) (nI (ft - 1))), (oq fa cF 200 FA), (oq ea cO cap5 SA), (oc11 (sp dn) (wh dn) (of9 dn) (we dn) (.ref (fe (FT (dn - 1)))) ch5)] ++ va_pl L7 f7) := hD
        refine lv_aload_n hx hb dX10_undo_67 rfl (lv_at hl 1 rfl) ?_
        refine lv_dup hx hb dX10_undo_68 rfl ?_
        refine va_get (D := (dC, dI)) (ci := 8) (v := .int (nI dn)) (C := RX10) (T := TX10) (N := 13) hx hb hts inX10 hown hK hP 0 rfl rfl 9 (by decide) (hts _ mw_318) (fun _ h9 => h9) rfl dX10_undo_69 ?_
        refine lv_iconst (v := 1) hx hb dX10_undo_72 (by decide) ?_
        refine lv_isub hx hb dX10_undo_73 ?_
        refine zz_i (v := nI (dn - 1)) (pk_sub (a := dn) (b := 1) (by omega)) ?_
        refine va_put (D := (dC, dI)) (ci := 8) (v := .int (nI (dn - 1))) (ty := .int) (C := RX10) (T := TX10) (N := 13) hx hb hts inX10 tyX10 tyX10_ok nmX10 hown hK hP hD hS 0 rfl rfl 9 (by decide) (hts _ mw_318) (fun _ h9 => h9) rfl (by decide +kernel) rfl rfl (Nat.le_of_ble_eq_true rfl) dX10_undo_74 (fun H locs hP hD hS => ?_)
        have hP : va_P (dC, dI) classes ([(oc8 x (.ref sh) (.ref lw) (.ref ro) (.ref bq) (.ref bp) (.ref dq) (.ref dp) (.ref lv) (.ref sl) (nI (dn - 1)) (nI bs) ul su), (oc10 sl mc9 (.ref ea) (nI T)), (oc7 sh (.ref fa) (nI (ft - 1))), (oq fa cF 200 FA), (oq ea cO cap5 SA), (oc11 (sp dn) (wh dn) (of9 dn) (we dn) (.ref (fe (FT (dn - 1)))) ch5)] ++ va_pl L7 f7) H := hP
        have hD : va_D A ([(oc8 x (.ref sh) (.ref lw) (.ref ro) (.ref bq) (.ref bp) (.ref dq) (.ref dp) (.ref lv) (.ref sl) (nI (dn - 1)) (nI bs) ul su), (oc10 sl mc9 (.ref ea) (nI T)), (oc7 sh (.ref fa) (nI (ft - 1))), (oq fa cF 200 FA), (oq ea cO cap5 SA), (oc11 (sp dn) (wh dn) (of9 dn) (we dn) (.ref (fe (FT (dn - 1)))) ch5)] ++ va_pl L7 f7) := hD
        refine lv_aload_n hx hb dX10_undo_77 rfl (lv_at hl 1 rfl) ?_
        refine lv_iconst (v := 0) hx hb dX10_undo_78 (by decide) ?_
        refine va_put (D := (dC, dI)) (ci := 8) (v := .int 0) (ty := .int) (C := RX10) (T := TX10) (N := 13) hx hb hts inX10 tyX10 tyX10_ok nmX10 hown hK hP hD hS 0 rfl rfl 12 (by decide) (hts _ mw_321) (fun _ h9 => h9) rfl (by decide +kernel) rfl rfl (Nat.le_of_ble_eq_true rfl) dX10_undo_79 (fun H locs hP hD hS => ?_)
        have hP : va_P (dC, dI) classes ([(oc8 x (.ref sh) (.ref lw) (.ref ro) (.ref bq) (.ref bp) (.ref dq) (.ref dp) (.ref lv) (.ref sl) (nI (dn - 1)) (nI bs) ul 0), (oc10 sl mc9 (.ref ea) (nI T)), (oc7 sh (.ref fa) (nI (ft - 1))), (oq fa cF 200 FA), (oq ea cO cap5 SA), (oc11 (sp dn) (wh dn) (of9 dn) (we dn) (.ref (fe (FT (dn - 1)))) ch5)] ++ va_pl L7 f7) H := hP
        have hD : va_D A ([(oc8 x (.ref sh) (.ref lw) (.ref ro) (.ref bq) (.ref bp) (.ref dq) (.ref dp) (.ref lv) (.ref sl) (nI (dn - 1)) (nI bs) ul 0), (oc10 sl mc9 (.ref ea) (nI T)), (oc7 sh (.ref fa) (nI (ft - 1))), (oq fa cF 200 FA), (oq ea cO cap5 SA), (oc11 (sp dn) (wh dn) (of9 dn) (we dn) (.ref (fe (FT (dn - 1)))) ch5)] ++ va_pl L7 f7) := hD
        refine lv_aload_n hx hb dX10_undo_82 rfl (lv_at hl 1 rfl) ?_
        refine va_get (D := (dC, dI)) (ci := 8) (v := .int (nI (dn - 1))) (C := RX10) (T := TX10) (N := 13) hx hb hts inX10 hown hK hP 0 rfl rfl 9 (by decide) (hts _ mw_318) (fun _ h9 => h9) rfl dX10_undo_83 ?_
        refine lv_iconst (v := 1) hx hb dX10_undo_86 (by decide) ?_
        refine lv_iadd hx hb dX10_undo_87 ?_
        refine zz_i (v := nI ((dn - 1) + 1)) (nI_add (dn - 1) 1) ?_
        have hP : va_P (dC, dI) classes (([(oc8 x (.ref sh) (.ref lw) (.ref ro) (.ref bq) (.ref bp) (.ref dq) (.ref dp) (.ref lv) (.ref sl) (nI (dn - 1)) (nI bs) ul 0), (oc10 sl mc9 (.ref ea) (nI T)), (oc7 sh (.ref fa) (nI (ft - 1))), (oq fa cF 200 FA)] ++ [(oq ea cO cap5 SA), (oc11 (sp dn) (wh dn) (of9 dn) (we dn) (.ref (fe (FT (dn - 1)))) ch5)]) ++ va_pl L7 f7) H := hP
        have hD : va_D A (([(oc8 x (.ref sh) (.ref lw) (.ref ro) (.ref bq) (.ref bp) (.ref dq) (.ref dp) (.ref lv) (.ref sl) (nI (dn - 1)) (nI bs) ul 0), (oc10 sl mc9 (.ref ea) (nI T)), (oc7 sh (.ref fa) (nI (ft - 1))), (oq fa cF 200 FA)] ++ [(oq ea cO cap5 SA), (oc11 (sp dn) (wh dn) (of9 dn) (we dn) (.ref (fe (FT (dn - 1)))) ch5)]) ++ va_pl L7 f7) := hD
        obtain ⟨Lp2, fp2, hP, hD, hpin_2⟩ := pl_pin (cs := []) (old := []) (new := [(oq ea cO cap5 SA), (oc11 (sp dn) (wh dn) (of9 dn) (we dn) (.ref (fe (FT (dn - 1)))) ch5)]) (cs1 := [(oq ea cO cap5 SA), (oc11 (sp dn) (wh dn) (of9 dn) (we dn) (.ref (fe (FT (dn - 1)))) ch5)]) (X := [(oc8 x (.ref sh) (.ref lw) (.ref ro) (.ref bq) (.ref bp) (.ref dq) (.ref dp) (.ref lv) (.ref sl) (nI (dn - 1)) (nI bs) ul 0), (oc10 sl mc9 (.ref ea) (nI T)), (oc7 sh (.ref fa) (nI (ft - 1))), (oq fa cF 200 FA)]) (L := L7) (f := f7) rfl rfl (by rw [outPl_nil]; exact hP) (by rw [outPl_nil]; exact hD)
        obtain ⟨hfr_2, hkp_2, hce_2, hsx_2, hpw_2⟩ := id hpin_2
        have hk79 : kpT (fun g => ¬ g % 8 = 0) L f own Lp2 fp2 own := kp_re (cs := [(ea, .inl (cO, cap5, .inr (.inr (.inr (.inr SA))))), (sp dn, .inr (11, [.int (wh dn), .int (of9 dn), .int (we dn), .ref (fe (FT (dn - 1))), ch5]))]) (by rw [hT_1]; exact hk7) (hkp_2 own own _ (fun _ _ => rfl) trivial) (fun c hc g e h => by simp only [List.mem_cons, List.not_mem_nil, or_false] at hc; rcases hc with rfl | rfl; (obtain ⟨e1, e2⟩ := ce_eq h hce5; rw [e1, e2]; exact hce_2 own 0 _ _ _ rfl hce5.2.2); (obtain ⟨e1, e2⟩ := ce_eq h hs2; rw [e1, e2]; exact hce_2 own 1 _ _ _ rfl hs2.2.2))
        have hF79 : FeA cI Lp2 fp2 own (FT T) fe (la (dn - 1)) cl (fun _ => .null) rk wd tw pa pb := FeA_cg (FeA_kp (hkp_2 own own (fun _ => True) (fun _ _ => rfl) trivial) (fun _ _ => ⟨trivial, trivial⟩) hF7) (fun q hq => by by_cases m : q ∈ qs5; exact ((hn7 q).1 m).symm; rw [(hn7 q).2 m]; exact hql5 q hq m)
        have hB6 := U_pos (FA1 := FA) (ft1 := FT (dn - 1)) hF79 hk79 hG9 hH9 hft9 (by omega) (by omega) rfl (fun q hq => hFA9 q (by omega)) hc
        have hP9 := hP.part (cx := [(oc8 x (.ref sh) (.ref lw) (.ref ro) (.ref bq) (.ref bp) (.ref dq) (.ref dp) (.ref lv) (.ref sl) (nI (dn - 1)) (nI bs) ul 0), (oc10 sl mc9 (.ref ea) (nI T)), (oc7 sh (.ref fa) (nI (ft - 1))), (oq fa cF 200 FA)]) [0, 1, 2, 3] rfl
        have hD9 := hD.part (cx := [(oc8 x (.ref sh) (.ref lw) (.ref ro) (.ref bq) (.ref bp) (.ref dq) (.ref dp) (.ref lv) (.ref sl) (nI (dn - 1)) (nI bs) ul 0), (oc10 sl mc9 (.ref ea) (nI T)), (oc7 sh (.ref fa) (nI (ft - 1))), (oq fa cF 200 FA)]) [0, 1, 2, 3] (by decide) rfl
        have hE9 : (([(oc8 x (.ref sh) (.ref lw) (.ref ro) (.ref bq) (.ref bp) (.ref dq) (.ref dp) (.ref lv) (.ref sl) (nI (dn - 1)) (nI bs) ul 0), (oc10 sl mc9 (.ref ea) (nI T)), (oc7 sh (.ref fa) (nI (ft - 1))), (oq fa cF 200 FA)] ++ va_pl Lp2 fp2) : va_W) = ([(oc8 x (.ref sh) (.ref lw) (.ref ro) (.ref bq) (.ref bp) (.ref dq) (.ref dp) (.ref lv) (.ref sl) (nI (dn - 1)) (nI bs) ul 0), (oc10 sl mc9 (.ref ea) (nI T)), (oc7 sh (.ref fa) (nI (FT (dn - 1)))), (oq fa cF 200 FA)] ++ va_pl Lp2 fp2) := by rw [show ft - 1 = FT (dn - 1) by omega]
        rw [hE9] at hP9 hD9
        rw [hQ9]
        exact W.iret (v := nI ((dn - 1) + 1)) hx hb hr (fun t ht hW => ⟨⟨rfl, Lp2, fp2, FA, (hB6), by rw [ht]; exact hP9, hD9⟩, hS.F ht⟩) hS.2.2 dX10_undo_88
      · have c_4 : ((T : Nat) : Int) < ((dn : Nat) : Int) := zc_nle (nI_toInt (by omega)) (nI_toInt (by omega)) c_4
        exfalso; omega
set_option maxHeartbeats 4000000 in
set_option maxRecDepth 100000 in
theorem k_redo_y (l : Launch) (dC : Nat → ClassId) (dI : Nat → Nat → Nat) (cI cZ cF : ClassId) (sz : Nat) (cO : ClassId) (e0 : Nat) (mi : Nat) (x : Nat) (sh : Nat) (lw : Nat) (ro : Nat) (bq : Nat) (bp : Nat) (dq : Nat) (dp : Nat) (lv : Nat) (sl : Nat) (ul : Int32) (su : Int32) (ea : Nat) (mc9 : Int32) (fa : Nat) (FA : Nat → Option Nat) (bs : Nat) (dn : Nat) (T : Nat) (ft : Nat) (FT : Nat → Nat) (V : Nat → Nat → Nat → Int32) (VX : Nat → Nat → Int32) (VY : Nat → Nat → Int32) (tn : Nat → Int32) (rk : Nat → Int32) (wd : Nat → Int32) (tw : Nat → Int32) (pa : Nat → Int32) (pb : Nat → Int32) (wh : Nat → Int32) (of9 : Nat → Int32) (we : Nat → Int32) (kd : Nat → Int32) (st : Nat → Int32) (gb : Nat → Int32) (it : Nat → Int32) (mn : Nat → Int32) (cx : Nat → Int32) (cy : Nat → Int32) (L : List Nat) (f : Nat → va_E) (kd1 : Nat → Int32) (st1 : Nat → Int32) (gb1 : Nat → Int32) (it1 : Nat → Int32) (mn1 : Nat → Int32) (cx1 : Nat → Int32) (cy1 : Nat → Int32) (hB : shB cI cO L f e0 FA ea bs dn T ft FT V VX VY tn rk wd tw pa pb wh of9 we kd st gb it mn cx cy) (hlt : dn < T) (hd5 : dn + 1 ≤ 512) (hc : ∀ q, q < FT (dn + 1) → kd1 q = V (dn + 1) 0 q ∧ st1 q = V (dn + 1) 1 q ∧ gb1 q = V (dn + 1) 2 q ∧ it1 q = V (dn + 1) 3 q ∧ ((¬ (V (dn + 1) 1 q).toInt = 0 ∧ (tn q).toInt = 0) → nN (mn1 q) = nN (V (dn + 1) 4 q) ∧ ∀ k, k < nN (V (dn + 1) 4 q) → cF40 cx1 q k = cF40 (VX (dn + 1)) q k ∧ cF40 cy1 q k = cF40 (VY (dn + 1)) q k) ∧ ((V (dn + 1) 1 q).toInt = 0 → mn1 q = mn q ∧ ∀ k, k < 40 → cF40 cx1 q k = cF40 cx q k ∧ cF40 cy1 q k = cF40 cy q k)) : Met l yX10_redo (.code yX10_redo cX10_redo 2 (some .int) :: ws0) ({ frames := 3, cells := 0, slots := 0, locals := 64 } : Room) (va_Pc [.ref x] (zPre (dC, dI) classes (zTyO cI cZ cF cO) ([(oc8 x (.ref sh) (.ref lw) (.ref ro) (.ref bq) (.ref bp) (.ref dq) (.ref dp) (.ref lv) (.ref sl) (nI dn) (nI bs) ul su), (oc10 sl mc9 (.ref ea) (nI T)), (oc7 sh (.ref fa) (nI ft)), (oq fa cF 200 FA)] ++ va_pl L f) sz (zXL e0 mi (va_A ([(oc8 x (.ref sh) (.ref lw) (.ref ro) (.ref bq) (.ref bp) (.ref dq) (.ref dp) (.ref lv) (.ref sl) (nI dn) (nI bs) ul su), (oc10 sl mc9 (.ref ea) (nI T)), (oc7 sh (.ref fa) (nI ft)), (oq fa cF 200 FA)] ++ va_pl L f) sz)))) (zQ (some (.int (nI (dn + 1)))) (fun t => ∃ (L1 : List Nat), ∃ (f1 : Nat → va_E), ∃ (FA1 : Nat → Option Nat), (shB cI cO L1 f1 e0 FA1 ea bs (dn + 1) T (FT (dn + 1)) FT V VX VY tn rk wd tw pa pb wh of9 we kd1 st1 gb1 it1 mn1 cx1 cy1) ∧ va_P (dC, dI) classes ([(oc8 x (.ref sh) (.ref lw) (.ref ro) (.ref bq) (.ref bp) (.ref dq) (.ref dp) (.ref lv) (.ref sl) (nI (dn + 1)) (nI bs) ul 0), (oc10 sl mc9 (.ref ea) (nI T)), (oc7 sh (.ref fa) (nI (FT (dn + 1)))), (oq fa cF 200 FA1)] ++ va_pl L1 f1) t.heap ∧ va_D (va_A ([(oc8 x (.ref sh) (.ref lw) (.ref ro) (.ref bq) (.ref bp) (.ref dq) (.ref dp) (.ref lv) (.ref sl) (nI dn) (nI bs) ul su), (oc10 sl mc9 (.ref ea) (nI T)), (oc7 sh (.ref fa) (nI ft)), (oq fa cF 200 FA)] ++ va_pl L f) sz) ([(oc8 x (.ref sh) (.ref lw) (.ref ro) (.ref bq) (.ref bp) (.ref dq) (.ref dp) (.ref lv) (.ref sl) (nI (dn + 1)) (nI bs) ul 0), (oc10 sl mc9 (.ref ea) (nI T)), (oc7 sh (.ref fa) (nI (FT (dn + 1)))), (oq fa cF 200 FA1)] ++ va_pl L1 f1)) (va_A ([(oc8 x (.ref sh) (.ref lw) (.ref ro) (.ref bq) (.ref bp) (.ref dq) (.ref dp) (.ref lv) (.ref sl) (nI dn) (nI bs) ul su), (oc10 sl mc9 (.ref ea) (nI T)), (oc7 sh (.ref fa) (nI ft)), (oq fa cF 200 FA)] ++ va_pl L f) sz)) 0 0 (va_A ([(oc8 x (.ref sh) (.ref lw) (.ref ro) (.ref bq) (.ref bp) (.ref dq) (.ref dp) (.ref lv) (.ref sl) (nI dn) (nI bs) ul su), (oc10 sl mc9 (.ref ea) (nI T)), (oc7 sh (.ref fa) (nI ft)), (oq fa cF 200 FA)] ++ va_pl L f) sz) := by
  refine Met.ofW (cc := cX10_redo) (maxL := 2) (ret := (some .int)) (by decide) rfl ?_
  intro p e s m args below meth c s₁ B hml hv
  obtain ⟨rfl, hsz, hP, hK, hD0, hXL⟩ := hv
  have hx := B.exec
  have hb := B.bytes
  have hr := B.returns
  have hts0 := atoms_spec (ws := .code yX10_redo cX10_redo 2 (some .int) :: ws0) B.pre
  have hts : ∀ w9 ∈ ws0, w9.before ([.ref x] : List Value).toArray s = true := fun w9 h => hts0 w9 (List.mem_cons_of_mem _ h)
  have hown : s.vm.findClass "ScaleShop" = some m.cls := findClass_of_methodNamed B.named
  have hlocks := B.notSynchronized
  subst hsz
  have hD := hD0.self (sz := s.heap.size)
  clear hD0
  generalize hAe : va_A ([(oc8 x (.ref sh) (.ref lw) (.ref ro) (.ref bq) (.ref bp) (.ref dq) (.ref dp) (.ref lv) (.ref sl) (nI dn) (nI bs) ul su), (oc10 sl mc9 (.ref ea) (nI T)), (oc7 sh (.ref fa) (nI ft)), (oq fa cF 200 FA)] ++ va_pl L f) s.heap.size = A at hD hXL ⊢
  have hA : ∀ q : Nat, s.heap.size ≤ q → A q := fun q h => by rw [← hAe]; exact Or.inr h
  clear hAe
  have hS : va_S A s.heap s.heap [] := va_S.rf
  have hXN := hXL.1
  have hK3 := hK.sub [0, 1, 2] rfl
  have hP : va_P (dC, dI) classes ([(oc8 x (.ref sh) (.ref lw) (.ref ro) (.ref bq) (.ref bp) (.ref dq) (.ref dp) (.ref lv) (.ref sl) (nI dn) (nI bs) ul su), (oc10 sl mc9 (.ref ea) (nI T)), (oc7 sh (.ref fa) (nI ft)), (oq fa cF 200 FA)] ++ va_pl L f) s.heap := hP
  obtain ⟨Q9, hQ9⟩ : ∃ Q9 : State → Prop, Q9 = MQ below (zQ (some (.int (nI (dn + 1)))) (fun t => ∃ (L1 : List Nat), ∃ (f1 : Nat → va_E), ∃ (FA1 : Nat → Option Nat), (shB cI cO L1 f1 e0 FA1 ea bs (dn + 1) T (FT (dn + 1)) FT V VX VY tn rk wd tw pa pb wh of9 we kd1 st1 gb1 it1 mn1 cx1 cy1) ∧ va_P (dC, dI) classes ([(oc8 x (.ref sh) (.ref lw) (.ref ro) (.ref bq) (.ref bp) (.ref dq) (.ref dp) (.ref lv) (.ref sl) (nI (dn + 1)) (nI bs) ul 0), (oc10 sl mc9 (.ref ea) (nI T)), (oc7 sh (.ref fa) (nI (FT (dn + 1)))), (oq fa cF 200 FA1)] ++ va_pl L1 f1) t.heap ∧ va_D A ([(oc8 x (.ref sh) (.ref lw) (.ref ro) (.ref bq) (.ref bp) (.ref dq) (.ref dp) (.ref lv) (.ref sl) (nI (dn + 1)) (nI bs) ul 0), (oc10 sl mc9 (.ref ea) (nI T)), (oc7 sh (.ref fa) (nI (FT (dn + 1)))), (oq fa cF 200 FA1)] ++ va_pl L1 f1)) A) ([.ref x] : List Value).toArray s 0 0 A := ⟨_, rfl⟩
  rw [← hQ9]
  have hl := lv_entry ([.ref x]) (n := 2) (Nat.le_of_ble_eq_true rfl)
  rw [lg_entry_eq]
  generalize (lg_sl ([.ref x]) ++ List.replicate (2 - (lg_sl ([.ref x])).length) Slot.unset).toArray = ls at hl ⊢
  have hl : lv_has ls 2 [(0, .ref x)] := hl
  obtain ⟨own, fe, cl, la, sp, SA, hG9, hH9, hft9⟩ := hB
  have hN9 := hG9.2.2.2.2.2.1
  have h200 : ft ≤ 200 := Nat.le_trans hN9.2.2.2.2.1 hN9.2.2.2.2.2
  have hFT2 := hN9.2.2.2.2.2
  have hFA9 := hG9.2.2.2.2.2.2
  have hdT := hN9.2.1
  have hT5 := hN9.2.2.1
  have hbd := hN9.1
  obtain ⟨hs1, mv5, ch5, hs2, hs3⟩ := hG9.2.2.2.1 (dn + 1) (by omega) (by omega)
  obtain ⟨⟨qs5, hch5, hqs5, hql5⟩, hmv5⟩ := hs3 (by omega)
  obtain ⟨cap5, hce5, hnc5, hc10, hc1k, hent⟩ : ∃ cap : Nat, ce L f own 8002 ea (.inl (cO, cap, .inr (.inr (.inr (.inr SA))))) ∧ T ≤ cap ∧ 10 ≤ cap ∧ cap ≤ 1000 ∧ ∀ i, i < T → ∃ (y : Nat) (vs : List Value), SA i = some y ∧ ce L f own 8001 y (.inr (11, vs)) := (hG9.2.2.2.2.1).resolve_left (fun g => by omega)
  rw [Nat.add_sub_cancel] at hmv5
  rcases hmv5 with ⟨hf5, hm5⟩ | ⟨hf5, hm5⟩
  · skip
    subst hm5
    have hc9_1 : inPl L f [(oq ea cO cap5 SA), (oc11 (sp (dn + 1)) (wh (dn + 1)) (of9 (dn + 1)) (we (dn + 1)) .null ch5)] := ⟨ce_pl hce5, ce_pl hs2, trivial⟩
    have hD0_1 := hD
    obtain ⟨hP, hD⟩ := pl_out hP hD [(oq ea cO cap5 SA), (oc11 (sp (dn + 1)) (wh (dn + 1)) (of9 (dn + 1)) (we (dn + 1)) .null ch5)] hc9_1 (pw2 (ca_ne hs2.2.1 hce5.2.1).symm)
    generalize hT_1 : outPl L [(oq ea cO cap5 SA), (oc11 (sp (dn + 1)) (wh (dn + 1)) (of9 (dn + 1)) (we (dn + 1)) .null ch5)] = T_1 at hP hD
    have hP : va_P (dC, dI) classes ([(oc8 x (.ref sh) (.ref lw) (.ref ro) (.ref bq) (.ref bp) (.ref dq) (.ref dp) (.ref lv) (.ref sl) (nI dn) (nI bs) ul su), (oc10 sl mc9 (.ref ea) (nI T)), (oc7 sh (.ref fa) (nI ft)), (oq fa cF 200 FA), (oq ea cO cap5 SA), (oc11 (sp (dn + 1)) (wh (dn + 1)) (of9 (dn + 1)) (we (dn + 1)) .null ch5)] ++ va_pl T_1 f) s.heap := hP
    have hD : va_D A ([(oc8 x (.ref sh) (.ref lw) (.ref ro) (.ref bq) (.ref bp) (.ref dq) (.ref dp) (.ref lv) (.ref sl) (nI dn) (nI bs) ul su), (oc10 sl mc9 (.ref ea) (nI T)), (oc7 sh (.ref fa) (nI ft)), (oq fa cF 200 FA), (oq ea cO cap5 SA), (oc11 (sp (dn + 1)) (wh (dn + 1)) (of9 (dn + 1)) (we (dn + 1)) .null ch5)] ++ va_pl T_1 f) := hD
    refine lv_aload_n hx hb dX10_redo_0 rfl (lv_at hl 0 rfl) ?_
    refine va_get (D := (dC, dI)) (ci := 8) (v := .int (nI dn)) (C := RX10) (T := TX10) (N := 13) hx hb hts inX10 hown hK hP 0 rfl rfl 9 (by decide) (hts _ mw_318) (fun _ h9 => h9) rfl dX10_redo_1 ?_
    refine lv_aload_n hx hb dX10_redo_4 rfl (lv_at hl 0 rfl) ?_
    refine va_get (D := (dC, dI)) (ci := 8) (v := .ref sl) (C := RX10) (T := TX10) (N := 13) hx hb hts inX10 hown hK hP 0 rfl rfl 8 (by decide) (hts _ mw_317) (fun _ h9 => h9) rfl dX10_redo_5 ?_
    have hPc := hP.sub (ws' := [(oc10 sl mc9 (.ref ea) (nI T))]) [1] rfl
    have hDc := hD.sub (ws' := [(oc10 sl mc9 (.ref ea) (nI T))]) [1] (by decide) rfl
    have hFc := va_free (wc := [(oc10 sl mc9 (.ref ea) (nI T))]) hD hS hA [1] rfl
    refine zcall (st1 := [.int (nI T), .int (nI dn)]) (va_runV (As := []) (rest := [.int (nI dn)]) ⟨hx, hb, hml, hown, hts⟩ (k_AL_size l dC dI cI cZ cF s.heap.size sl ea T mc9 ) (cwV 0 hts (zz_gV mw_468 mw_469 mw_470 mw_109 mc_yJx4a65c_size_8abf5) rfl rfl rfl (by decide +kernel) ⟨Nat.le_of_ble_eq_true rfl, Nat.le_of_ble_eq_true rfl⟩) (zPV2 (q0 := 0) (ci := 10) hPc hDc hK3 hXN rfl rfl) rfl rfl hl.1 rfl (lv_room (Nat.le_of_ble_eq_true rfl)) dX10_redo_8 ⟨Nat.le_of_ble_eq_true rfl, Nat.le_of_ble_eq_true rfl⟩) hS hFc hFc rfl (fun t H1 locs ht hB hk1 hS => ?_)
    obtain ⟨hP1, hD1⟩ := hB
    rw [ht] at hP1
    obtain ⟨hP, hD⟩ := va_joinQ (wr := [(oc8 x (.ref sh) (.ref lw) (.ref ro) (.ref bq) (.ref bp) (.ref dq) (.ref dp) (.ref lv) (.ref sl) (nI dn) (nI bs) ul su), (oc7 sh (.ref fa) (nI ft)), (oq fa cF 200 FA), (oq ea cO cap5 SA), (oc11 (sp (dn + 1)) (wh (dn + 1)) (of9 (dn + 1)) (we (dn + 1)) .null ch5)]) (w1 := [(oc10 sl mc9 (.ref ea) (nI T))]) hP hD [1] [0, 2, 3, 4, 5] rfl rfl (by decide) (by decide) hk1 hFc hP1 hD1
    clear hk1 hPc hDc hFc hP1 hD1 ht
    generalize H1 = H at hP hS ⊢
    have hP := hP.part (cx := [(oc8 x (.ref sh) (.ref lw) (.ref ro) (.ref bq) (.ref bp) (.ref dq) (.ref dp) (.ref lv) (.ref sl) (nI dn) (nI bs) ul su), (oc10 sl mc9 (.ref ea) (nI T)), (oc7 sh (.ref fa) (nI ft)), (oq fa cF 200 FA), (oq ea cO cap5 SA), (oc11 (sp (dn + 1)) (wh (dn + 1)) (of9 (dn + 1)) (we (dn + 1)) .null ch5)]) [0, 5, 1, 2, 3, 4] rfl
    have hD := hD.part (cx := [(oc8 x (.ref sh) (.ref lw) (.ref ro) (.ref bq) (.ref bp) (.ref dq) (.ref dp) (.ref lv) (.ref sl) (nI dn) (nI bs) ul su), (oc10 sl mc9 (.ref ea) (nI T)), (oc7 sh (.ref fa) (nI ft)), (oq fa cF 200 FA), (oq ea cO cap5 SA), (oc11 (sp (dn + 1)) (wh (dn + 1)) (of9 (dn + 1)) (we (dn + 1)) .null ch5)]) [0, 5, 1, 2, 3, 4] (by decide) rfl
    have hP : va_P (dC, dI) classes ([(oc8 x (.ref sh) (.ref lw) (.ref ro) (.ref bq) (.ref bp) (.ref dq) (.ref dp) (.ref lv) (.ref sl) (nI dn) (nI bs) ul su), (oc10 sl mc9 (.ref ea) (nI T)), (oc7 sh (.ref fa) (nI ft)), (oq fa cF 200 FA), (oq ea cO cap5 SA), (oc11 (sp (dn + 1)) (wh (dn + 1)) (of9 (dn + 1)) (we (dn + 1)) .null ch5)] ++ va_pl T_1 f) H := hP
    have hD : va_D A ([(oc8 x (.ref sh) (.ref lw) (.ref ro) (.ref bq) (.ref bp) (.ref dq) (.ref dp) (.ref lv) (.ref sl) (nI dn) (nI bs) ul su), (oc10 sl mc9 (.ref ea) (nI T)), (oc7 sh (.ref fa) (nI ft)), (oq fa cF 200 FA), (oq ea cO cap5 SA), (oc11 (sp (dn + 1)) (wh (dn + 1)) (of9 (dn + 1)) (we (dn + 1)) .null ch5)] ++ va_pl T_1 f) := hD
    refine lv_icmp_lt (tgt := 21) hx hb dX10_redo_11 (by decide) (fun c_1 => ?_) (fun c_1 => ?_)
    · have c_1 : ((dn : Nat) : Int) < ((T : Nat) : Int) := zc_lt (nI_toInt (by omega)) (nI_toInt (by omega)) c_1
      refine lv_aload_n hx hb dX10_redo_21 rfl (lv_at hl 0 rfl) ?_
      refine va_get (D := (dC, dI)) (ci := 8) (v := .ref sl) (C := RX10) (T := TX10) (N := 13) hx hb hts inX10 hown hK hP 0 rfl rfl 8 (by decide) (hts _ mw_317) (fun _ h9 => h9) rfl dX10_redo_22 ?_
      refine lv_aload_n hx hb dX10_redo_25 rfl (lv_at hl 0 rfl) ?_
      refine va_get (D := (dC, dI)) (ci := 8) (v := .int (nI dn)) (C := RX10) (T := TX10) (N := 13) hx hb hts inX10 hown hK hP 0 rfl rfl 9 (by decide) (hts _ mw_318) (fun _ h9 => h9) rfl dX10_redo_26 ?_
      have hko : ∀ P : Nat → Prop, ¬ P 8001 → ¬ P 8002 → kpT P L f own T_1 f own := fun P h1 h2 => by rw [← hT_1]; exact kp_out (fun c hc => by simp only [List.mem_cons, List.not_mem_nil, or_false] at hc; rcases hc with rfl | rfl; (show ¬ P (own ea); rw [hce5.2.2]; exact h2); (show ¬ P (own (sp (dn + 1))); rw [hs2.2.2]; exact h1))
      have hPc := hP.sub (ws' := [(oc10 sl mc9 (.ref ea) (nI T)), (oq ea cO cap5 SA)]) [1, 4] rfl
      have hDc := hD.sub (ws' := [(oc10 sl mc9 (.ref ea) (nI T)), (oq ea cO cap5 SA)]) [1, 4] (by decide) rfl
      have hFc := va_free (wc := [(oc10 sl mc9 (.ref ea) (nI T)), (oq ea cO cap5 SA)]) hD hS hA [1, 4] rfl
      refine zcall (st1 := [.ref (sp (dn + 1))]) (va_runV (As := [.int (nI dn)]) (rest := []) ⟨hx, hb, hml, hown, hts⟩ (k_AL_get l dC dI cI cZ cF H.size cO e0 mi sl ea T mc9 dn cap5 (sp (dn + 1)) SA (hs1) (by omega) (by omega) (by omega) (by omega)) (cwV 1 hts (zz_gV mw_1032 mw_1033 mw_1034 mw_109 mc_yJx4a65c_get_915e3) rfl rfl rfl (by decide +kernel) ⟨Nat.le_of_ble_eq_true rfl, Nat.le_of_ble_eq_true rfl⟩) (zPVL (q0 := 0) (ci := 10) hPc hDc hK hXL hS hFc rfl rfl) rfl rfl hl.1 rfl (lv_room (Nat.le_of_ble_eq_true rfl)) dX10_redo_29 ⟨Nat.le_of_ble_eq_true rfl, Nat.le_of_ble_eq_true rfl⟩) hS hFc hFc rfl (fun t H1 locs ht hB hk1 hS => ?_)
      obtain ⟨hP1, hD1⟩ := hB
      rw [ht] at hP1
      obtain ⟨hP, hD⟩ := va_joinQ (wr := [(oc8 x (.ref sh) (.ref lw) (.ref ro) (.ref bq) (.ref bp) (.ref dq) (.ref dp) (.ref lv) (.ref sl) (nI dn) (nI bs) ul su), (oc7 sh (.ref fa) (nI ft)), (oq fa cF 200 FA), (oc11 (sp (dn + 1)) (wh (dn + 1)) (of9 (dn + 1)) (we (dn + 1)) .null ch5)]) (w1 := [(oc10 sl mc9 (.ref ea) (nI T)), (oq ea cO cap5 SA)]) hP hD [1, 4] [0, 2, 3, 5] rfl rfl (by decide) (by decide) hk1 hFc hP1 hD1
      clear hk1 hPc hDc hFc hP1 hD1 ht
      generalize H1 = H at hP hS ⊢
      have hP := hP.part (cx := [(oc8 x (.ref sh) (.ref lw) (.ref ro) (.ref bq) (.ref bp) (.ref dq) (.ref dp) (.ref lv) (.ref sl) (nI dn) (nI bs) ul su), (oc10 sl mc9 (.ref ea) (nI T)), (oc7 sh (.ref fa) (nI ft)), (oq fa cF 200 FA), (oq ea cO cap5 SA), (oc11 (sp (dn + 1)) (wh (dn + 1)) (of9 (dn + 1)) (we (dn + 1)) .null ch5)]) [0, 4, 1, 2, 5, 3] rfl
      have hD := hD.part (cx := [(oc8 x (.ref sh) (.ref lw) (.ref ro) (.ref bq) (.ref bp) (.ref dq) (.ref dp) (.ref lv) (.ref sl) (nI dn) (nI bs) ul su), (oc10 sl mc9 (.ref ea) (nI T)), (oc7 sh (.ref fa) (nI ft)), (oq fa cF 200 FA), (oq ea cO cap5 SA), (oc11 (sp (dn + 1)) (wh (dn + 1)) (of9 (dn + 1)) (we (dn + 1)) .null ch5)]) [0, 4, 1, 2, 5, 3] (by decide) rfl
      have hP : va_P (dC, dI) classes ([(oc8 x (.ref sh) (.ref lw) (.ref ro) (.ref bq) (.ref bp) (.ref dq) (.ref dp) (.ref lv) (.ref sl) (nI dn) (nI bs) ul su), (oc10 sl mc9 (.ref ea) (nI T)), (oc7 sh (.ref fa) (nI ft)), (oq fa cF 200 FA), (oq ea cO cap5 SA), (oc11 (sp (dn + 1)) (wh (dn + 1)) (of9 (dn + 1)) (we (dn + 1)) .null ch5)] ++ va_pl T_1 f) H := hP
      have hD : va_D A ([(oc8 x (.ref sh) (.ref lw) (.ref ro) (.ref bq) (.ref bp) (.ref dq) (.ref dp) (.ref lv) (.ref sl) (nI dn) (nI bs) ul su), (oc10 sl mc9 (.ref ea) (nI T)), (oc7 sh (.ref fa) (nI ft)), (oq fa cF 200 FA), (oq ea cO cap5 SA), (oc11 (sp (dn + 1)) (wh (dn + 1)) (of9 (dn + 1)) (we (dn + 1)) .null ch5)] ++ va_pl T_1 f) := hD
      refine va_castE hx hb hown (hts _ mw_757) (z_cellR (i := 0) hK (hP 5 _ rfl) rfl) dX10_redo_32 ?_
      refine lv_astore_n (lv' := [(1, .ref (sp (dn + 1))), (0, .ref x)]) hx hb dX10_redo_35 rfl hl (by decide) rfl (fun ls hl => ?_)
      refine lv_aload_n hx hb dX10_redo_36 rfl (lv_at hl 0 rfl) ?_
      have hPc := hP.part (cx := [(oc11 (sp (dn + 1)) (wh (dn + 1)) (of9 (dn + 1)) (we (dn + 1)) .null ch5)]) [5] rfl
      have hDc := hD.part (cx := [(oc11 (sp (dn + 1)) (wh (dn + 1)) (of9 (dn + 1)) (we (dn + 1)) .null ch5)]) [5] (by decide) rfl
      have hFc := va_freeP (cx := [(oc11 (sp (dn + 1)) (wh (dn + 1)) (of9 (dn + 1)) (we (dn + 1)) .null ch5)]) hD hS hA [5] rfl
      refine zcall (st1 := []) (va_runV (As := []) (rest := []) ⟨hx, hb, hml, hown, hts⟩ (k_Step_repeat l dC dI cI cZ cF H.size (sp (dn + 1)) (wh (dn + 1)) (of9 (dn + 1)) (we (dn + 1)) (.null) ch5 own fe cl (la dn) (la dn) (la (dn + 1)) (FT T) qs5 rk wd tw pa pb T_1 f (FeA_kp (hko (fun g => g ≠ 8001 ∧ g ≠ 8002) (by simp) (by simp)) (fun q hq => ⟨⟨by omega, by omega⟩, ⟨by omega, by omega⟩⟩) hG9.1) (chn_kp (hko (fun g => g ≠ 8001 ∧ g ≠ 8002) (by simp) (by simp)) ⟨by omega, by omega⟩ hch5) (fun q hq => Nat.lt_of_lt_of_le (hqs5 q hq) (hN9.2.2.2.1 _ (by omega) (by omega)))) (cwV 0 hts (zz_gV mw_1053 mw_1054 mw_1055 mw_116 mc_yX9_repeat) rfl rfl rfl (by decide +kernel) ⟨Nat.le_of_ble_eq_true rfl, Nat.le_of_ble_eq_true rfl⟩) (zPV2 (q0 := 0) (ci := 11) hPc hDc hK3 hXN rfl rfl) rfl rfl hl.1 rfl (lv_room (Nat.le_of_ble_eq_true rfl)) dX10_redo_37 ⟨Nat.le_of_ble_eq_true rfl, Nat.le_of_ble_eq_true rfl⟩) hS hFc hFc rfl (fun t H1 locs ht hB hk1 hS => ?_)
      obtain ⟨L7, f7, nw7, hF7, hn7, hk7, hP1, hD1⟩ := hB
      rw [ht] at hP1
      obtain ⟨hP, hD⟩ := va_joinP (wr := [(oc8 x (.ref sh) (.ref lw) (.ref ro) (.ref bq) (.ref bp) (.ref dq) (.ref dp) (.ref lv) (.ref sl) (nI dn) (nI bs) ul su), (oc10 sl mc9 (.ref ea) (nI T)), (oc7 sh (.ref fa) (nI ft)), (oq fa cF 200 FA), (oq ea cO cap5 SA)]) (rx := [(oc11 (sp (dn + 1)) (wh (dn + 1)) (of9 (dn + 1)) (we (dn + 1)) .null ch5)]) hP hD [5] [0, 1, 2, 3, 4] rfl rfl (by decide) (by decide) hk1 hFc hP1 hD1
      clear hk1 hPc hDc hFc hP1 hD1 ht
      generalize H1 = H at hP hS ⊢
      have hP : va_P (dC, dI) classes ([(oc8 x (.ref sh) (.ref lw) (.ref ro) (.ref bq) (.ref bp) (.ref dq) (.ref dp) (.ref lv) (.ref sl) (nI dn) (nI bs) ul su), (oc10 sl mc9 (.ref ea) (nI T)), (oc7 sh (.ref fa) (nI ft)), (oq fa cF 200 FA), (oq ea cO cap5 SA), (oc11 (sp (dn + 1)) (wh (dn + 1)) (of9 (dn + 1)) (we (dn + 1)) .null ch5)] ++ va_pl L7 f7) H := hP
      have hD : va_D A ([(oc8 x (.ref sh) (.ref lw) (.ref ro) (.ref bq) (.ref bp) (.ref dq) (.ref dp) (.ref lv) (.ref sl) (nI dn) (nI bs) ul su), (oc10 sl mc9 (.ref ea) (nI T)), (oc7 sh (.ref fa) (nI ft)), (oq fa cF 200 FA), (oq ea cO cap5 SA), (oc11 (sp (dn + 1)) (wh (dn + 1)) (of9 (dn + 1)) (we (dn + 1)) .null ch5)] ++ va_pl L7 f7) := hD
      refine lv_aload_n hx hb dX10_redo_40 rfl (lv_at hl 0 rfl) ?_
      refine va_get (D := (dC, dI)) (ci := 11) (v := .null) (C := RX9) (T := TX9) (N := 5) hx hb hts inX9 hown hK hP 5 rfl rfl 3 (by decide) (hts _ mw_770) (fun _ h9 => h9) rfl dX10_redo_41 ?_
      refine lv_ifnullN (tgt := 59) hx hb dX10_redo_44 (by decide) ?_
      refine lv_aload_n hx hb dX10_redo_59 rfl (lv_at hl 1 rfl) ?_
      refine lv_dup hx hb dX10_redo_60 rfl ?_
      refine va_get (D := (dC, dI)) (ci := 8) (v := .int (nI dn)) (C := RX10) (T := TX10) (N := 13) hx hb hts inX10 hown hK hP 0 rfl rfl 9 (by decide) (hts _ mw_318) (fun _ h9 => h9) rfl dX10_redo_61 ?_
      refine lv_iconst (v := 1) hx hb dX10_redo_64 (by decide) ?_
      refine lv_iadd hx hb dX10_redo_65 ?_
      refine zz_i (v := nI (dn + 1)) (nI_add dn 1) ?_
      refine va_put (D := (dC, dI)) (ci := 8) (v := .int (nI (dn + 1))) (ty := .int) (C := RX10) (T := TX10) (N := 13) hx hb hts inX10 tyX10 tyX10_ok nmX10 hown hK hP hD hS 0 rfl rfl 9 (by decide) (hts _ mw_318) (fun _ h9 => h9) rfl (by decide +kernel) rfl rfl (Nat.le_of_ble_eq_true rfl) dX10_redo_66 (fun H locs hP hD hS => ?_)
      have hP : va_P (dC, dI) classes ([(oc8 x (.ref sh) (.ref lw) (.ref ro) (.ref bq) (.ref bp) (.ref dq) (.ref dp) (.ref lv) (.ref sl) (nI (dn + 1)) (nI bs) ul su), (oc10 sl mc9 (.ref ea) (nI T)), (oc7 sh (.ref fa) (nI ft)), (oq fa cF 200 FA), (oq ea cO cap5 SA), (oc11 (sp (dn + 1)) (wh (dn + 1)) (of9 (dn + 1)) (we (dn + 1)) .null ch5)] ++ va_pl L7 f7) H := hP
      have hD : va_D A ([(oc8 x (.ref sh) (.ref lw) (.ref ro) (.ref bq) (.ref bp) (.ref dq) (.ref dp) (.ref lv) (.ref sl) (nI (dn + 1)) (nI bs) ul su), (oc10 sl mc9 (.ref ea) (nI T)), (oc7 sh (.ref fa) (nI ft)), (oq fa cF 200 FA), (oq ea cO cap5 SA), (oc11 (sp (dn + 1)) (wh (dn + 1)) (of9 (dn + 1)) (we (dn + 1)) .null ch5)] ++ va_pl L7 f7) := hD
      refine lv_aload_n hx hb dX10_redo_69 rfl (lv_at hl 1 rfl) ?_
      refine lv_iconst (v := 0) hx hb dX10_redo_70 (by decide) ?_
      refine va_put (D := (dC, dI)) (ci := 8) (v := .int 0) (ty := .int) (C := RX10) (T := TX10) (N := 13) hx hb hts inX10 tyX10 tyX10_ok nmX10 hown hK hP hD hS 0 rfl rfl 12 (by decide) (hts _ mw_321) (fun _ h9 => h9) rfl (by decide +kernel) rfl rfl (Nat.le_of_ble_eq_true rfl) dX10_redo_71 (fun H locs hP hD hS => ?_)
      have hP : va_P (dC, dI) classes ([(oc8 x (.ref sh) (.ref lw) (.ref ro) (.ref bq) (.ref bp) (.ref dq) (.ref dp) (.ref lv) (.ref sl) (nI (dn + 1)) (nI bs) ul 0), (oc10 sl mc9 (.ref ea) (nI T)), (oc7 sh (.ref fa) (nI ft)), (oq fa cF 200 FA), (oq ea cO cap5 SA), (oc11 (sp (dn + 1)) (wh (dn + 1)) (of9 (dn + 1)) (we (dn + 1)) .null ch5)] ++ va_pl L7 f7) H := hP
      have hD : va_D A ([(oc8 x (.ref sh) (.ref lw) (.ref ro) (.ref bq) (.ref bp) (.ref dq) (.ref dp) (.ref lv) (.ref sl) (nI (dn + 1)) (nI bs) ul 0), (oc10 sl mc9 (.ref ea) (nI T)), (oc7 sh (.ref fa) (nI ft)), (oq fa cF 200 FA), (oq ea cO cap5 SA), (oc11 (sp (dn + 1)) (wh (dn + 1)) (of9 (dn + 1)) (we (dn + 1)) .null ch5)] ++ va_pl L7 f7) := hD
      refine lv_aload_n hx hb dX10_redo_74 rfl (lv_at hl 1 rfl) ?_
      refine va_get (D := (dC, dI)) (ci := 8) (v := .int (nI (dn + 1))) (C := RX10) (T := TX10) (N := 13) hx hb hts inX10 hown hK hP 0 rfl rfl 9 (by decide) (hts _ mw_318) (fun _ h9 => h9) rfl dX10_redo_75 ?_
      have hP : va_P (dC, dI) classes (([(oc8 x (.ref sh) (.ref lw) (.ref ro) (.ref bq) (.ref bp) (.ref dq) (.ref dp) (.ref lv) (.ref sl) (nI (dn + 1)) (nI bs) ul 0), (oc10 sl mc9 (.ref ea) (nI T)), (oc7 sh (.ref fa) (nI ft)), (oq fa cF 200 FA)] ++ [(oq ea cO cap5 SA), (oc11 (sp (dn + 1)) (wh (dn + 1)) (of9 (dn + 1)) (we (dn + 1)) .null ch5)]) ++ va_pl L7 f7) H := hP
      have hD : va_D A (([(oc8 x (.ref sh) (.ref lw) (.ref ro) (.ref bq) (.ref bp) (.ref dq) (.ref dp) (.ref lv) (.ref sl) (nI (dn + 1)) (nI bs) ul 0), (oc10 sl mc9 (.ref ea) (nI T)), (oc7 sh (.ref fa) (nI ft)), (oq fa cF 200 FA)] ++ [(oq ea cO cap5 SA), (oc11 (sp (dn + 1)) (wh (dn + 1)) (of9 (dn + 1)) (we (dn + 1)) .null ch5)]) ++ va_pl L7 f7) := hD
      obtain ⟨Lp2, fp2, hP, hD, hpin_2⟩ := pl_pin (cs := []) (old := []) (new := [(oq ea cO cap5 SA), (oc11 (sp (dn + 1)) (wh (dn + 1)) (of9 (dn + 1)) (we (dn + 1)) .null ch5)]) (cs1 := [(oq ea cO cap5 SA), (oc11 (sp (dn + 1)) (wh (dn + 1)) (of9 (dn + 1)) (we (dn + 1)) .null ch5)]) (X := [(oc8 x (.ref sh) (.ref lw) (.ref ro) (.ref bq) (.ref bp) (.ref dq) (.ref dp) (.ref lv) (.ref sl) (nI (dn + 1)) (nI bs) ul 0), (oc10 sl mc9 (.ref ea) (nI T)), (oc7 sh (.ref fa) (nI ft)), (oq fa cF 200 FA)]) (L := L7) (f := f7) rfl rfl (by rw [outPl_nil]; exact hP) (by rw [outPl_nil]; exact hD)
      obtain ⟨hfr_2, hkp_2, hce_2, hsx_2, hpw_2⟩ := id hpin_2
      have hk79 : kpT (fun g => ¬ g % 8 = 0) L f own Lp2 fp2 own := kp_re (cs := [(ea, .inl (cO, cap5, .inr (.inr (.inr (.inr SA))))), (sp (dn + 1), .inr (11, [.int (wh (dn + 1)), .int (of9 (dn + 1)), .int (we (dn + 1)), .null, ch5]))]) (by rw [hT_1]; exact hk7) (hkp_2 own own _ (fun _ _ => rfl) trivial) (fun c hc g e h => by simp only [List.mem_cons, List.not_mem_nil, or_false] at hc; rcases hc with rfl | rfl; (obtain ⟨e1, e2⟩ := ce_eq h hce5; rw [e1, e2]; exact hce_2 own 0 _ _ _ rfl hce5.2.2); (obtain ⟨e1, e2⟩ := ce_eq h hs2; rw [e1, e2]; exact hce_2 own 1 _ _ _ rfl hs2.2.2))
      have hF79 : FeA cI Lp2 fp2 own (FT T) fe (la (dn + 1)) cl (fun _ => .null) rk wd tw pa pb := FeA_cg (FeA_kp (hkp_2 own own (fun _ => True) (fun _ _ => rfl) trivial) (fun _ _ => ⟨trivial, trivial⟩) hF7) (fun q hq => by by_cases m : q ∈ qs5; exact ((hn7 q).1 m).symm; rw [(hn7 q).2 m]; exact (hql5 q hq m).symm)
      have hB6 := U_pos (FA1 := FA) (ft1 := FT (dn + 1)) hF79 hk79 hG9 hH9 hft9 (by omega) (by omega) rfl (fun q hq => hFA9 q (by omega)) hc
      have hP9 := hP.part (cx := [(oc8 x (.ref sh) (.ref lw) (.ref ro) (.ref bq) (.ref bp) (.ref dq) (.ref dp) (.ref lv) (.ref sl) (nI (dn + 1)) (nI bs) ul 0), (oc10 sl mc9 (.ref ea) (nI T)), (oc7 sh (.ref fa) (nI ft)), (oq fa cF 200 FA)]) [0, 1, 2, 3] rfl
      have hD9 := hD.part (cx := [(oc8 x (.ref sh) (.ref lw) (.ref ro) (.ref bq) (.ref bp) (.ref dq) (.ref dp) (.ref lv) (.ref sl) (nI (dn + 1)) (nI bs) ul 0), (oc10 sl mc9 (.ref ea) (nI T)), (oc7 sh (.ref fa) (nI ft)), (oq fa cF 200 FA)]) [0, 1, 2, 3] (by decide) rfl
      have hE9 : (([(oc8 x (.ref sh) (.ref lw) (.ref ro) (.ref bq) (.ref bp) (.ref dq) (.ref dp) (.ref lv) (.ref sl) (nI (dn + 1)) (nI bs) ul 0), (oc10 sl mc9 (.ref ea) (nI T)), (oc7 sh (.ref fa) (nI ft)), (oq fa cF 200 FA)] ++ va_pl Lp2 fp2) : va_W) = ([(oc8 x (.ref sh) (.ref lw) (.ref ro) (.ref bq) (.ref bp) (.ref dq) (.ref dp) (.ref lv) (.ref sl) (nI (dn + 1)) (nI bs) ul 0), (oc10 sl mc9 (.ref ea) (nI T)), (oc7 sh (.ref fa) (nI (FT (dn + 1)))), (oq fa cF 200 FA)] ++ va_pl Lp2 fp2) := by rw [show ft = FT (dn + 1) by omega]
      rw [hE9] at hP9 hD9
      rw [hQ9]
      exact W.iret (v := nI (dn + 1)) hx hb hr (fun t ht hW => ⟨⟨rfl, Lp2, fp2, FA, (hB6), by rw [ht]; exact hP9, hD9⟩, hS.F ht⟩) hS.2.2 dX10_redo_78
    · have c_1 : ((T : Nat) : Int) ≤ ((dn : Nat) : Int) := zc_nlt (nI_toInt (by omega)) (nI_toInt (by omega)) c_1
      exfalso; omega
  · skip
    subst hm5
    have hc9_1 : inPl L f [(oq ea cO cap5 SA), (oc11 (sp (dn + 1)) (wh (dn + 1)) (of9 (dn + 1)) (we (dn + 1)) (.ref (fe (FT dn))) ch5)] := ⟨ce_pl hce5, ce_pl hs2, trivial⟩
    have hD0_1 := hD
    obtain ⟨hP, hD⟩ := pl_out hP hD [(oq ea cO cap5 SA), (oc11 (sp (dn + 1)) (wh (dn + 1)) (of9 (dn + 1)) (we (dn + 1)) (.ref (fe (FT dn))) ch5)] hc9_1 (pw2 (ca_ne hs2.2.1 hce5.2.1).symm)
    generalize hT_1 : outPl L [(oq ea cO cap5 SA), (oc11 (sp (dn + 1)) (wh (dn + 1)) (of9 (dn + 1)) (we (dn + 1)) (.ref (fe (FT dn))) ch5)] = T_1 at hP hD
    have hP : va_P (dC, dI) classes ([(oc8 x (.ref sh) (.ref lw) (.ref ro) (.ref bq) (.ref bp) (.ref dq) (.ref dp) (.ref lv) (.ref sl) (nI dn) (nI bs) ul su), (oc10 sl mc9 (.ref ea) (nI T)), (oc7 sh (.ref fa) (nI ft)), (oq fa cF 200 FA), (oq ea cO cap5 SA), (oc11 (sp (dn + 1)) (wh (dn + 1)) (of9 (dn + 1)) (we (dn + 1)) (.ref (fe (FT dn))) ch5)] ++ va_pl T_1 f) s.heap := hP
    have hD : va_D A ([(oc8 x (.ref sh) (.ref lw) (.ref ro) (.ref bq) (.ref bp) (.ref dq) (.ref dp) (.ref lv) (.ref sl) (nI dn) (nI bs) ul su), (oc10 sl mc9 (.ref ea) (nI T)), (oc7 sh (.ref fa) (nI ft)), (oq fa cF 200 FA), (oq ea cO cap5 SA), (oc11 (sp (dn + 1)) (wh (dn + 1)) (of9 (dn + 1)) (we (dn + 1)) (.ref (fe (FT dn))) ch5)] ++ va_pl T_1 f) := hD
    refine lv_aload_n hx hb dX10_redo_0 rfl (lv_at hl 0 rfl) ?_
    refine va_get (D := (dC, dI)) (ci := 8) (v := .int (nI dn)) (C := RX10) (T := TX10) (N := 13) hx hb hts inX10 hown hK hP 0 rfl rfl 9 (by decide) (hts _ mw_318) (fun _ h9 => h9) rfl dX10_redo_1 ?_
    refine lv_aload_n hx hb dX10_redo_4 rfl (lv_at hl 0 rfl) ?_
    refine va_get (D := (dC, dI)) (ci := 8) (v := .ref sl) (C := RX10) (T := TX10) (N := 13) hx hb hts inX10 hown hK hP 0 rfl rfl 8 (by decide) (hts _ mw_317) (fun _ h9 => h9) rfl dX10_redo_5 ?_
    have hPc := hP.sub (ws' := [(oc10 sl mc9 (.ref ea) (nI T))]) [1] rfl
    have hDc := hD.sub (ws' := [(oc10 sl mc9 (.ref ea) (nI T))]) [1] (by decide) rfl
    have hFc := va_free (wc := [(oc10 sl mc9 (.ref ea) (nI T))]) hD hS hA [1] rfl
    refine zcall (st1 := [.int (nI T), .int (nI dn)]) (va_runV (As := []) (rest := [.int (nI dn)]) ⟨hx, hb, hml, hown, hts⟩ (k_AL_size l dC dI cI cZ cF s.heap.size sl ea T mc9 ) (cwV 0 hts (zz_gV mw_468 mw_469 mw_470 mw_109 mc_yJx4a65c_size_8abf5) rfl rfl rfl (by decide +kernel) ⟨Nat.le_of_ble_eq_true rfl, Nat.le_of_ble_eq_true rfl⟩) (zPV2 (q0 := 0) (ci := 10) hPc hDc hK3 hXN rfl rfl) rfl rfl hl.1 rfl (lv_room (Nat.le_of_ble_eq_true rfl)) dX10_redo_8 ⟨Nat.le_of_ble_eq_true rfl, Nat.le_of_ble_eq_true rfl⟩) hS hFc hFc rfl (fun t H1 locs ht hB hk1 hS => ?_)
    obtain ⟨hP1, hD1⟩ := hB
    rw [ht] at hP1
    obtain ⟨hP, hD⟩ := va_joinQ (wr := [(oc8 x (.ref sh) (.ref lw) (.ref ro) (.ref bq) (.ref bp) (.ref dq) (.ref dp) (.ref lv) (.ref sl) (nI dn) (nI bs) ul su), (oc7 sh (.ref fa) (nI ft)), (oq fa cF 200 FA), (oq ea cO cap5 SA), (oc11 (sp (dn + 1)) (wh (dn + 1)) (of9 (dn + 1)) (we (dn + 1)) (.ref (fe (FT dn))) ch5)]) (w1 := [(oc10 sl mc9 (.ref ea) (nI T))]) hP hD [1] [0, 2, 3, 4, 5] rfl rfl (by decide) (by decide) hk1 hFc hP1 hD1
    clear hk1 hPc hDc hFc hP1 hD1 ht
    generalize H1 = H at hP hS ⊢
    have hP := hP.part (cx := [(oc8 x (.ref sh) (.ref lw) (.ref ro) (.ref bq) (.ref bp) (.ref dq) (.ref dp) (.ref lv) (.ref sl) (nI dn) (nI bs) ul su), (oc10 sl mc9 (.ref ea) (nI T)), (oc7 sh (.ref fa) (nI ft)), (oq fa cF 200 FA), (oq ea cO cap5 SA), (oc11 (sp (dn + 1)) (wh (dn + 1)) (of9 (dn + 1)) (we (dn + 1)) (.ref (fe (FT dn))) ch5)]) [0, 5, 1, 2, 3, 4] rfl
    have hD := hD.part (cx := [(oc8 x (.ref sh) (.ref lw) (.ref ro) (.ref bq) (.ref bp) (.ref dq) (.ref dp) (.ref lv) (.ref sl) (nI dn) (nI bs) ul su), (oc10 sl mc9 (.ref ea) (nI T)), (oc7 sh (.ref fa) (nI ft)), (oq fa cF 200 FA), (oq ea cO cap5 SA), (oc11 (sp (dn + 1)) (wh (dn + 1)) (of9 (dn + 1)) (we (dn + 1)) (.ref (fe (FT dn))) ch5)]) [0, 5, 1, 2, 3, 4] (by decide) rfl
    have hP : va_P (dC, dI) classes ([(oc8 x (.ref sh) (.ref lw) (.ref ro) (.ref bq) (.ref bp) (.ref dq) (.ref dp) (.ref lv) (.ref sl) (nI dn) (nI bs) ul su), (oc10 sl mc9 (.ref ea) (nI T)), (oc7 sh (.ref fa) (nI ft)), (oq fa cF 200 FA), (oq ea cO cap5 SA), (oc11 (sp (dn + 1)) (wh (dn + 1)) (of9 (dn + 1)) (we (dn + 1)) (.ref (fe (FT dn))) ch5)] ++ va_pl T_1 f) H := hP
    have hD : va_D A ([(oc8 x (.ref sh) (.ref lw) (.ref ro) (.ref bq) (.ref bp) (.ref dq) (.ref dp) (.ref lv) (.ref sl) (nI dn) (nI bs) ul su), (oc10 sl mc9 (.ref ea) (nI T)), (oc7 sh (.ref fa) (nI ft)), (oq fa cF 200 FA), (oq ea cO cap5 SA), (oc11 (sp (dn + 1)) (wh (dn + 1)) (of9 (dn + 1)) (we (dn + 1)) (.ref (fe (FT dn))) ch5)] ++ va_pl T_1 f) := hD
    refine lv_icmp_lt (tgt := 21) hx hb dX10_redo_11 (by decide) (fun c_2 => ?_) (fun c_2 => ?_)
    · have c_2 : ((dn : Nat) : Int) < ((T : Nat) : Int) := zc_lt (nI_toInt (by omega)) (nI_toInt (by omega)) c_2
      refine lv_aload_n hx hb dX10_redo_21 rfl (lv_at hl 0 rfl) ?_
      refine va_get (D := (dC, dI)) (ci := 8) (v := .ref sl) (C := RX10) (T := TX10) (N := 13) hx hb hts inX10 hown hK hP 0 rfl rfl 8 (by decide) (hts _ mw_317) (fun _ h9 => h9) rfl dX10_redo_22 ?_
      refine lv_aload_n hx hb dX10_redo_25 rfl (lv_at hl 0 rfl) ?_
      refine va_get (D := (dC, dI)) (ci := 8) (v := .int (nI dn)) (C := RX10) (T := TX10) (N := 13) hx hb hts inX10 hown hK hP 0 rfl rfl 9 (by decide) (hts _ mw_318) (fun _ h9 => h9) rfl dX10_redo_26 ?_
      have hko : ∀ P : Nat → Prop, ¬ P 8001 → ¬ P 8002 → kpT P L f own T_1 f own := fun P h1 h2 => by rw [← hT_1]; exact kp_out (fun c hc => by simp only [List.mem_cons, List.not_mem_nil, or_false] at hc; rcases hc with rfl | rfl; (show ¬ P (own ea); rw [hce5.2.2]; exact h2); (show ¬ P (own (sp (dn + 1))); rw [hs2.2.2]; exact h1))
      have hPc := hP.sub (ws' := [(oc10 sl mc9 (.ref ea) (nI T)), (oq ea cO cap5 SA)]) [1, 4] rfl
      have hDc := hD.sub (ws' := [(oc10 sl mc9 (.ref ea) (nI T)), (oq ea cO cap5 SA)]) [1, 4] (by decide) rfl
      have hFc := va_free (wc := [(oc10 sl mc9 (.ref ea) (nI T)), (oq ea cO cap5 SA)]) hD hS hA [1, 4] rfl
      refine zcall (st1 := [.ref (sp (dn + 1))]) (va_runV (As := [.int (nI dn)]) (rest := []) ⟨hx, hb, hml, hown, hts⟩ (k_AL_get l dC dI cI cZ cF H.size cO e0 mi sl ea T mc9 dn cap5 (sp (dn + 1)) SA (hs1) (by omega) (by omega) (by omega) (by omega)) (cwV 1 hts (zz_gV mw_1032 mw_1033 mw_1034 mw_109 mc_yJx4a65c_get_915e3) rfl rfl rfl (by decide +kernel) ⟨Nat.le_of_ble_eq_true rfl, Nat.le_of_ble_eq_true rfl⟩) (zPVL (q0 := 0) (ci := 10) hPc hDc hK hXL hS hFc rfl rfl) rfl rfl hl.1 rfl (lv_room (Nat.le_of_ble_eq_true rfl)) dX10_redo_29 ⟨Nat.le_of_ble_eq_true rfl, Nat.le_of_ble_eq_true rfl⟩) hS hFc hFc rfl (fun t H1 locs ht hB hk1 hS => ?_)
      obtain ⟨hP1, hD1⟩ := hB
      rw [ht] at hP1
      obtain ⟨hP, hD⟩ := va_joinQ (wr := [(oc8 x (.ref sh) (.ref lw) (.ref ro) (.ref bq) (.ref bp) (.ref dq) (.ref dp) (.ref lv) (.ref sl) (nI dn) (nI bs) ul su), (oc7 sh (.ref fa) (nI ft)), (oq fa cF 200 FA), (oc11 (sp (dn + 1)) (wh (dn + 1)) (of9 (dn + 1)) (we (dn + 1)) (.ref (fe (FT dn))) ch5)]) (w1 := [(oc10 sl mc9 (.ref ea) (nI T)), (oq ea cO cap5 SA)]) hP hD [1, 4] [0, 2, 3, 5] rfl rfl (by decide) (by decide) hk1 hFc hP1 hD1
      clear hk1 hPc hDc hFc hP1 hD1 ht
      generalize H1 = H at hP hS ⊢
      have hP := hP.part (cx := [(oc8 x (.ref sh) (.ref lw) (.ref ro) (.ref bq) (.ref bp) (.ref dq) (.ref dp) (.ref lv) (.ref sl) (nI dn) (nI bs) ul su), (oc10 sl mc9 (.ref ea) (nI T)), (oc7 sh (.ref fa) (nI ft)), (oq fa cF 200 FA), (oq ea cO cap5 SA), (oc11 (sp (dn + 1)) (wh (dn + 1)) (of9 (dn + 1)) (we (dn + 1)) (.ref (fe (FT dn))) ch5)]) [0, 4, 1, 2, 5, 3] rfl
      have hD := hD.part (cx := [(oc8 x (.ref sh) (.ref lw) (.ref ro) (.ref bq) (.ref bp) (.ref dq) (.ref dp) (.ref lv) (.ref sl) (nI dn) (nI bs) ul su), (oc10 sl mc9 (.ref ea) (nI T)), (oc7 sh (.ref fa) (nI ft)), (oq fa cF 200 FA), (oq ea cO cap5 SA), (oc11 (sp (dn + 1)) (wh (dn + 1)) (of9 (dn + 1)) (we (dn + 1)) (.ref (fe (FT dn))) ch5)]) [0, 4, 1, 2, 5, 3] (by decide) rfl
      have hP : va_P (dC, dI) classes ([(oc8 x (.ref sh) (.ref lw) (.ref ro) (.ref bq) (.ref bp) (.ref dq) (.ref dp) (.ref lv) (.ref sl) (nI dn) (nI bs) ul su), (oc10 sl mc9 (.ref ea) (nI T)), (oc7 sh (.ref fa) (nI ft)), (oq fa cF 200 FA), (oq ea cO cap5 SA), (oc11 (sp (dn + 1)) (wh (dn + 1)) (of9 (dn + 1)) (we (dn + 1)) (.ref (fe (FT dn))) ch5)] ++ va_pl T_1 f) H := hP
      have hD : va_D A ([(oc8 x (.ref sh) (.ref lw) (.ref ro) (.ref bq) (.ref bp) (.ref dq) (.ref dp) (.ref lv) (.ref sl) (nI dn) (nI bs) ul su), (oc10 sl mc9 (.ref ea) (nI T)), (oc7 sh (.ref fa) (nI ft)), (oq fa cF 200 FA), (oq ea cO cap5 SA), (oc11 (sp (dn + 1)) (wh (dn + 1)) (of9 (dn + 1)) (we (dn + 1)) (.ref (fe (FT dn))) ch5)] ++ va_pl T_1 f) := hD
      refine va_castE hx hb hown (hts _ mw_757) (z_cellR (i := 0) hK (hP 5 _ rfl) rfl) dX10_redo_32 ?_
      refine lv_astore_n (lv' := [(1, .ref (sp (dn + 1))), (0, .ref x)]) hx hb dX10_redo_35 rfl hl (by decide) rfl (fun ls hl => ?_)
      refine lv_aload_n hx hb dX10_redo_36 rfl (lv_at hl 0 rfl) ?_
      have hPc := hP.part (cx := [(oc11 (sp (dn + 1)) (wh (dn + 1)) (of9 (dn + 1)) (we (dn + 1)) (.ref (fe (FT dn))) ch5)]) [5] rfl
      have hDc := hD.part (cx := [(oc11 (sp (dn + 1)) (wh (dn + 1)) (of9 (dn + 1)) (we (dn + 1)) (.ref (fe (FT dn))) ch5)]) [5] (by decide) rfl
      have hFc := va_freeP (cx := [(oc11 (sp (dn + 1)) (wh (dn + 1)) (of9 (dn + 1)) (we (dn + 1)) (.ref (fe (FT dn))) ch5)]) hD hS hA [5] rfl
      refine zcall (st1 := []) (va_runV (As := []) (rest := []) ⟨hx, hb, hml, hown, hts⟩ (k_Step_repeat l dC dI cI cZ cF H.size (sp (dn + 1)) (wh (dn + 1)) (of9 (dn + 1)) (we (dn + 1)) (.ref (fe (FT dn))) ch5 own fe cl (la dn) (la dn) (la (dn + 1)) (FT T) qs5 rk wd tw pa pb T_1 f (FeA_kp (hko (fun g => g ≠ 8001 ∧ g ≠ 8002) (by simp) (by simp)) (fun q hq => ⟨⟨by omega, by omega⟩, ⟨by omega, by omega⟩⟩) hG9.1) (chn_kp (hko (fun g => g ≠ 8001 ∧ g ≠ 8002) (by simp) (by simp)) ⟨by omega, by omega⟩ hch5) (fun q hq => Nat.lt_of_lt_of_le (hqs5 q hq) (hN9.2.2.2.1 _ (by omega) (by omega)))) (cwV 0 hts (zz_gV mw_1053 mw_1054 mw_1055 mw_116 mc_yX9_repeat) rfl rfl rfl (by decide +kernel) ⟨Nat.le_of_ble_eq_true rfl, Nat.le_of_ble_eq_true rfl⟩) (zPV2 (q0 := 0) (ci := 11) hPc hDc hK3 hXN rfl rfl) rfl rfl hl.1 rfl (lv_room (Nat.le_of_ble_eq_true rfl)) dX10_redo_37 ⟨Nat.le_of_ble_eq_true rfl, Nat.le_of_ble_eq_true rfl⟩) hS hFc hFc rfl (fun t H1 locs ht hB hk1 hS => ?_)
      obtain ⟨L7, f7, nw7, hF7, hn7, hk7, hP1, hD1⟩ := hB
      rw [ht] at hP1
      obtain ⟨hP, hD⟩ := va_joinP (wr := [(oc8 x (.ref sh) (.ref lw) (.ref ro) (.ref bq) (.ref bp) (.ref dq) (.ref dp) (.ref lv) (.ref sl) (nI dn) (nI bs) ul su), (oc10 sl mc9 (.ref ea) (nI T)), (oc7 sh (.ref fa) (nI ft)), (oq fa cF 200 FA), (oq ea cO cap5 SA)]) (rx := [(oc11 (sp (dn + 1)) (wh (dn + 1)) (of9 (dn + 1)) (we (dn + 1)) (.ref (fe (FT dn))) ch5)]) hP hD [5] [0, 1, 2, 3, 4] rfl rfl (by decide) (by decide) hk1 hFc hP1 hD1
      clear hk1 hPc hDc hFc hP1 hD1 ht
      generalize H1 = H at hP hS ⊢
      have hP : va_P (dC, dI) classes ([(oc8 x (.ref sh) (.ref lw) (.ref ro) (.ref bq) (.ref bp) (.ref dq) (.ref dp) (.ref lv) (.ref sl) (nI dn) (nI bs) ul su), (oc10 sl mc9 (.ref ea) (nI T)), (oc7 sh (.ref fa) (nI ft)), (oq fa cF 200 FA), (oq ea cO cap5 SA), (oc11 (sp (dn + 1)) (wh (dn + 1)) (of9 (dn + 1)) (we (dn + 1)) (.ref (fe (FT dn))) ch5)] ++ va_pl L7 f7) H := hP
      have hD : va_D A ([(oc8 x (.ref sh) (.ref lw) (.ref ro) (.ref bq) (.ref bp) (.ref dq) (.ref dp) (.ref lv) (.ref sl) (nI dn) (nI bs) ul su), (oc10 sl mc9 (.ref ea) (nI T)), (oc7 sh (.ref fa) (nI ft)), (oq fa cF 200 FA), (oq ea cO cap5 SA), (oc11 (sp (dn + 1)) (wh (dn + 1)) (of9 (dn + 1)) (we (dn + 1)) (.ref (fe (FT dn))) ch5)] ++ va_pl L7 f7) := hD
      refine lv_aload_n hx hb dX10_redo_40 rfl (lv_at hl 0 rfl) ?_
      refine va_get (D := (dC, dI)) (ci := 11) (v := .ref (fe (FT dn))) (C := RX9) (T := TX9) (N := 5) hx hb hts inX9 hown hK hP 5 rfl rfl 3 (by decide) (hts _ mw_770) (fun _ h9 => h9) rfl dX10_redo_41 ?_
      refine lv_ifnull hx hb dX10_redo_44 ?_
      have hlt8 : FT dn < FT T := by have := hN9.2.2.2.1 (dn + 1) (by omega) (by omega); omega
      obtain ⟨lo8, hcf8⟩ := FeA_c hF7 hlt8
      have hc9_2 : inPl L7 f7 [(oc1 (fe (FT dn)) (rk (FT dn)) (wd (FT dn)) (tw (FT dn)) (pa (FT dn)) (pb (FT dn)) (.ref lo8) (.ref (nw7 (FT dn))) .null)] := ⟨ce_pl hcf8, trivial⟩
      have hD0_2 := hD
      obtain ⟨hP, hD⟩ := pl_out hP hD [(oc1 (fe (FT dn)) (rk (FT dn)) (wd (FT dn)) (tw (FT dn)) (pa (FT dn)) (pb (FT dn)) (.ref lo8) (.ref (nw7 (FT dn))) .null)] hc9_2 (List.pairwise_singleton _ _)
      generalize hT_2 : outPl L7 [(oc1 (fe (FT dn)) (rk (FT dn)) (wd (FT dn)) (tw (FT dn)) (pa (FT dn)) (pb (FT dn)) (.ref lo8) (.ref (nw7 (FT dn))) .null)] = T_2 at hP hD
      have hP : va_P (dC, dI) classes ([(oc8 x (.ref sh) (.ref lw) (.ref ro) (.ref bq) (.ref bp) (.ref dq) (.ref dp) (.ref lv) (.ref sl) (nI dn) (nI bs) ul su), (oc10 sl mc9 (.ref ea) (nI T)), (oc7 sh (.ref fa) (nI ft)), (oq fa cF 200 FA), (oq ea cO cap5 SA), (oc11 (sp (dn + 1)) (wh (dn + 1)) (of9 (dn + 1)) (we (dn + 1)) (.ref (fe (FT dn))) ch5), (oc1 (fe (FT dn)) (rk (FT dn)) (wd (FT dn)) (tw (FT dn)) (pa (FT dn)) (pb (FT dn)) (.ref lo8) (.ref (nw7 (FT dn))) .null)] ++ va_pl T_2 f7) H := hP
      have hD : va_D A ([(oc8 x (.ref sh) (.ref lw) (.ref ro) (.ref bq) (.ref bp) (.ref dq) (.ref dp) (.ref lv) (.ref sl) (nI dn) (nI bs) ul su), (oc10 sl mc9 (.ref ea) (nI T)), (oc7 sh (.ref fa) (nI ft)), (oq fa cF 200 FA), (oq ea cO cap5 SA), (oc11 (sp (dn + 1)) (wh (dn + 1)) (of9 (dn + 1)) (we (dn + 1)) (.ref (fe (FT dn))) ch5), (oc1 (fe (FT dn)) (rk (FT dn)) (wd (FT dn)) (tw (FT dn)) (pa (FT dn)) (pb (FT dn)) (.ref lo8) (.ref (nw7 (FT dn))) .null)] ++ va_pl T_2 f7) := hD
      refine lv_aload_n hx hb dX10_redo_47 rfl (lv_at hl 1 rfl) ?_
      refine va_get (D := (dC, dI)) (ci := 8) (v := .ref sh) (C := RX10) (T := TX10) (N := 13) hx hb hts inX10 hown hK hP 0 rfl rfl 0 (by decide) (hts _ mw_309) (fun _ h9 => h9) rfl dX10_redo_48 ?_
      refine lv_aload_n hx hb dX10_redo_51 rfl (lv_at hl 0 rfl) ?_
      refine va_get (D := (dC, dI)) (ci := 11) (v := .ref (fe (FT dn))) (C := RX9) (T := TX9) (N := 5) hx hb hts inX9 hown hK hP 5 rfl rfl 3 (by decide) (hts _ mw_770) (fun _ h9 => h9) rfl dX10_redo_52 ?_
      have hPc := hP.sub (ws' := [(oc7 sh (.ref fa) (nI ft)), (oq fa cF 200 FA), (oc1 (fe (FT dn)) (rk (FT dn)) (wd (FT dn)) (tw (FT dn)) (pa (FT dn)) (pb (FT dn)) (.ref lo8) (.ref (nw7 (FT dn))) .null)]) [2, 3, 6] rfl
      have hDc := hD.sub (ws' := [(oc7 sh (.ref fa) (nI ft)), (oq fa cF 200 FA), (oc1 (fe (FT dn)) (rk (FT dn)) (wd (FT dn)) (tw (FT dn)) (pa (FT dn)) (pb (FT dn)) (.ref lo8) (.ref (nw7 (FT dn))) .null)]) [2, 3, 6] (by decide) rfl
      have hFc := va_free (wc := [(oc7 sh (.ref fa) (nI ft)), (oq fa cF 200 FA), (oc1 (fe (FT dn)) (rk (FT dn)) (wd (FT dn)) (tw (FT dn)) (pa (FT dn)) (pb (FT dn)) (.ref lo8) (.ref (nw7 (FT dn))) .null)]) hD hS hA [2, 3, 6] rfl
      refine zcall (st1 := [.int (nI ft)]) (va_runV (As := [.ref (fe (FT dn))]) (rest := []) ⟨hx, hb, hml, hown, hts⟩ (k_Sheet_add l dC dI cI cZ cF H.size sh fa ft FA (fe (FT dn)) lo8 (rk (FT dn)) (wd (FT dn)) (tw (FT dn)) (pa (FT dn)) (pb (FT dn)) (nw7 (FT dn)) (by omega)) (cwV 1 hts (zz_gV mw_489 mw_490 mw_491 mw_100 mc_yX8_add) rfl rfl rfl (by decide +kernel) ⟨Nat.le_of_ble_eq_true rfl, Nat.le_of_ble_eq_true rfl⟩) (zPV2 (q0 := 0) (ci := 7) hPc hDc hK3 hXN rfl rfl) rfl rfl hl.1 rfl (lv_room (Nat.le_of_ble_eq_true rfl)) dX10_redo_55 ⟨Nat.le_of_ble_eq_true rfl, Nat.le_of_ble_eq_true rfl⟩) hS hFc hFc rfl (fun t H1 locs ht hB hk1 hS => ?_)
      obtain ⟨hP1, hD1⟩ := hB
      rw [ht] at hP1
      obtain ⟨hP, hD⟩ := va_joinQ (wr := [(oc8 x (.ref sh) (.ref lw) (.ref ro) (.ref bq) (.ref bp) (.ref dq) (.ref dp) (.ref lv) (.ref sl) (nI dn) (nI bs) ul su), (oc10 sl mc9 (.ref ea) (nI T)), (oq ea cO cap5 SA), (oc11 (sp (dn + 1)) (wh (dn + 1)) (of9 (dn + 1)) (we (dn + 1)) (.ref (fe (FT dn))) ch5)]) (w1 := [(oc7 sh (.ref fa) (nI (ft + 1))), (oq fa cF 200 (va_up FA ft (some (fe (FT dn))))), (oc1 (fe (FT dn)) (rk (FT dn)) (wd (FT dn)) (tw (FT dn)) (pa (FT dn)) (pb (FT dn)) (.ref lo8) (.ref (nw7 (FT dn))) .null)]) hP hD [2, 3, 6] [0, 1, 4, 5] rfl rfl (by decide) (by decide) hk1 hFc hP1 hD1
      clear hk1 hPc hDc hFc hP1 hD1 ht
      generalize H1 = H at hP hS ⊢
      have hP := hP.part (cx := [(oc8 x (.ref sh) (.ref lw) (.ref ro) (.ref bq) (.ref bp) (.ref dq) (.ref dp) (.ref lv) (.ref sl) (nI dn) (nI bs) ul su), (oc10 sl mc9 (.ref ea) (nI T)), (oc7 sh (.ref fa) (nI (ft + 1))), (oq fa cF 200 (va_up FA ft (some (fe (FT dn))))), (oq ea cO cap5 SA), (oc11 (sp (dn + 1)) (wh (dn + 1)) (of9 (dn + 1)) (we (dn + 1)) (.ref (fe (FT dn))) ch5), (oc1 (fe (FT dn)) (rk (FT dn)) (wd (FT dn)) (tw (FT dn)) (pa (FT dn)) (pb (FT dn)) (.ref lo8) (.ref (nw7 (FT dn))) .null)]) [0, 1, 4, 5, 2, 3, 6] rfl
      have hD := hD.part (cx := [(oc8 x (.ref sh) (.ref lw) (.ref ro) (.ref bq) (.ref bp) (.ref dq) (.ref dp) (.ref lv) (.ref sl) (nI dn) (nI bs) ul su), (oc10 sl mc9 (.ref ea) (nI T)), (oc7 sh (.ref fa) (nI (ft + 1))), (oq fa cF 200 (va_up FA ft (some (fe (FT dn))))), (oq ea cO cap5 SA), (oc11 (sp (dn + 1)) (wh (dn + 1)) (of9 (dn + 1)) (we (dn + 1)) (.ref (fe (FT dn))) ch5), (oc1 (fe (FT dn)) (rk (FT dn)) (wd (FT dn)) (tw (FT dn)) (pa (FT dn)) (pb (FT dn)) (.ref lo8) (.ref (nw7 (FT dn))) .null)]) [0, 1, 4, 5, 2, 3, 6] (by decide) rfl
      have hP : va_P (dC, dI) classes ([(oc8 x (.ref sh) (.ref lw) (.ref ro) (.ref bq) (.ref bp) (.ref dq) (.ref dp) (.ref lv) (.ref sl) (nI dn) (nI bs) ul su), (oc10 sl mc9 (.ref ea) (nI T)), (oc7 sh (.ref fa) (nI (ft + 1))), (oq fa cF 200 (va_up FA ft (some (fe (FT dn))))), (oq ea cO cap5 SA), (oc11 (sp (dn + 1)) (wh (dn + 1)) (of9 (dn + 1)) (we (dn + 1)) (.ref (fe (FT dn))) ch5), (oc1 (fe (FT dn)) (rk (FT dn)) (wd (FT dn)) (tw (FT dn)) (pa (FT dn)) (pb (FT dn)) (.ref lo8) (.ref (nw7 (FT dn))) .null)] ++ va_pl T_2 f7) H := hP
      have hD : va_D A ([(oc8 x (.ref sh) (.ref lw) (.ref ro) (.ref bq) (.ref bp) (.ref dq) (.ref dp) (.ref lv) (.ref sl) (nI dn) (nI bs) ul su), (oc10 sl mc9 (.ref ea) (nI T)), (oc7 sh (.ref fa) (nI (ft + 1))), (oq fa cF 200 (va_up FA ft (some (fe (FT dn))))), (oq ea cO cap5 SA), (oc11 (sp (dn + 1)) (wh (dn + 1)) (of9 (dn + 1)) (we (dn + 1)) (.ref (fe (FT dn))) ch5), (oc1 (fe (FT dn)) (rk (FT dn)) (wd (FT dn)) (tw (FT dn)) (pa (FT dn)) (pb (FT dn)) (.ref lo8) (.ref (nw7 (FT dn))) .null)] ++ va_pl T_2 f7) := hD
      have hP := pl_back (cs := [(oc1 (fe (FT dn)) (rk (FT dn)) (wd (FT dn)) (tw (FT dn)) (pa (FT dn)) (pb (FT dn)) (.ref lo8) (.ref (nw7 (FT dn))) .null)]) (L := L7) (f := f7) (X := [(oc8 x (.ref sh) (.ref lw) (.ref ro) (.ref bq) (.ref bp) (.ref dq) (.ref dp) (.ref lv) (.ref sl) (nI dn) (nI bs) ul su), (oc10 sl mc9 (.ref ea) (nI T)), (oc7 sh (.ref fa) (nI (ft + 1))), (oq fa cF 200 (va_up FA ft (some (fe (FT dn))))), (oq ea cO cap5 SA), (oc11 (sp (dn + 1)) (wh (dn + 1)) (of9 (dn + 1)) (we (dn + 1)) (.ref (fe (FT dn))) ch5)]) (by rw [hT_2]; exact (show va_P (dC, dI) classes (([(oc8 x (.ref sh) (.ref lw) (.ref ro) (.ref bq) (.ref bp) (.ref dq) (.ref dp) (.ref lv) (.ref sl) (nI dn) (nI bs) ul su), (oc10 sl mc9 (.ref ea) (nI T)), (oc7 sh (.ref fa) (nI (ft + 1))), (oq fa cF 200 (va_up FA ft (some (fe (FT dn))))), (oq ea cO cap5 SA), (oc11 (sp (dn + 1)) (wh (dn + 1)) (of9 (dn + 1)) (we (dn + 1)) (.ref (fe (FT dn))) ch5)] ++ [(oc1 (fe (FT dn)) (rk (FT dn)) (wd (FT dn)) (tw (FT dn)) (pa (FT dn)) (pb (FT dn)) (.ref lo8) (.ref (nw7 (FT dn))) .null)]) ++ va_pl T_2 f7) H from hP)) hc9_2
      have hD : va_D A ([(oc8 x (.ref sh) (.ref lw) (.ref ro) (.ref bq) (.ref bp) (.ref dq) (.ref dp) (.ref lv) (.ref sl) (nI dn) (nI bs) ul su), (oc10 sl mc9 (.ref ea) (nI T)), (oc7 sh (.ref fa) (nI (ft + 1))), (oq fa cF 200 (va_up FA ft (some (fe (FT dn))))), (oq ea cO cap5 SA), (oc11 (sp (dn + 1)) (wh (dn + 1)) (of9 (dn + 1)) (we (dn + 1)) (.ref (fe (FT dn))) ch5)] ++ va_pl L7 f7) := vaD_ae hD0_2 rfl
      refine lv_pop hx hb dX10_redo_58 rfl ?_
      refine lv_aload_n hx hb dX10_redo_59 rfl (lv_at hl 1 rfl) ?_
      refine lv_dup hx hb dX10_redo_60 rfl ?_
      refine va_get (D := (dC, dI)) (ci := 8) (v := .int (nI dn)) (C := RX10) (T := TX10) (N := 13) hx hb hts inX10 hown hK hP 0 rfl rfl 9 (by decide) (hts _ mw_318) (fun _ h9 => h9) rfl dX10_redo_61 ?_
      refine lv_iconst (v := 1) hx hb dX10_redo_64 (by decide) ?_
      refine lv_iadd hx hb dX10_redo_65 ?_
      refine zz_i (v := nI (dn + 1)) (nI_add dn 1) ?_
      refine va_put (D := (dC, dI)) (ci := 8) (v := .int (nI (dn + 1))) (ty := .int) (C := RX10) (T := TX10) (N := 13) hx hb hts inX10 tyX10 tyX10_ok nmX10 hown hK hP hD hS 0 rfl rfl 9 (by decide) (hts _ mw_318) (fun _ h9 => h9) rfl (by decide +kernel) rfl rfl (Nat.le_of_ble_eq_true rfl) dX10_redo_66 (fun H locs hP hD hS => ?_)
      have hP : va_P (dC, dI) classes ([(oc8 x (.ref sh) (.ref lw) (.ref ro) (.ref bq) (.ref bp) (.ref dq) (.ref dp) (.ref lv) (.ref sl) (nI (dn + 1)) (nI bs) ul su), (oc10 sl mc9 (.ref ea) (nI T)), (oc7 sh (.ref fa) (nI (ft + 1))), (oq fa cF 200 (va_up FA ft (some (fe (FT dn))))), (oq ea cO cap5 SA), (oc11 (sp (dn + 1)) (wh (dn + 1)) (of9 (dn + 1)) (we (dn + 1)) (.ref (fe (FT dn))) ch5)] ++ va_pl L7 f7) H := hP
      have hD : va_D A ([(oc8 x (.ref sh) (.ref lw) (.ref ro) (.ref bq) (.ref bp) (.ref dq) (.ref dp) (.ref lv) (.ref sl) (nI (dn + 1)) (nI bs) ul su), (oc10 sl mc9 (.ref ea) (nI T)), (oc7 sh (.ref fa) (nI (ft + 1))), (oq fa cF 200 (va_up FA ft (some (fe (FT dn))))), (oq ea cO cap5 SA), (oc11 (sp (dn + 1)) (wh (dn + 1)) (of9 (dn + 1)) (we (dn + 1)) (.ref (fe (FT dn))) ch5)] ++ va_pl L7 f7) := hD
      refine lv_aload_n hx hb dX10_redo_69 rfl (lv_at hl 1 rfl) ?_
      refine lv_iconst (v := 0) hx hb dX10_redo_70 (by decide) ?_
      refine va_put (D := (dC, dI)) (ci := 8) (v := .int 0) (ty := .int) (C := RX10) (T := TX10) (N := 13) hx hb hts inX10 tyX10 tyX10_ok nmX10 hown hK hP hD hS 0 rfl rfl 12 (by decide) (hts _ mw_321) (fun _ h9 => h9) rfl (by decide +kernel) rfl rfl (Nat.le_of_ble_eq_true rfl) dX10_redo_71 (fun H locs hP hD hS => ?_)
      have hP : va_P (dC, dI) classes ([(oc8 x (.ref sh) (.ref lw) (.ref ro) (.ref bq) (.ref bp) (.ref dq) (.ref dp) (.ref lv) (.ref sl) (nI (dn + 1)) (nI bs) ul 0), (oc10 sl mc9 (.ref ea) (nI T)), (oc7 sh (.ref fa) (nI (ft + 1))), (oq fa cF 200 (va_up FA ft (some (fe (FT dn))))), (oq ea cO cap5 SA), (oc11 (sp (dn + 1)) (wh (dn + 1)) (of9 (dn + 1)) (we (dn + 1)) (.ref (fe (FT dn))) ch5)] ++ va_pl L7 f7) H := hP
      have hD : va_D A ([(oc8 x (.ref sh) (.ref lw) (.ref ro) (.ref bq) (.ref bp) (.ref dq) (.ref dp) (.ref lv) (.ref sl) (nI (dn + 1)) (nI bs) ul 0), (oc10 sl mc9 (.ref ea) (nI T)), (oc7 sh (.ref fa) (nI (ft + 1))), (oq fa cF 200 (va_up FA ft (some (fe (FT dn))))), (oq ea cO cap5 SA), (oc11 (sp (dn + 1)) (wh (dn + 1)) (of9 (dn + 1)) (we (dn + 1)) (.ref (fe (FT dn))) ch5)] ++ va_pl L7 f7) := hD
      refine lv_aload_n hx hb dX10_redo_74 rfl (lv_at hl 1 rfl) ?_
      refine va_get (D := (dC, dI)) (ci := 8) (v := .int (nI (dn + 1))) (C := RX10) (T := TX10) (N := 13) hx hb hts inX10 hown hK hP 0 rfl rfl 9 (by decide) (hts _ mw_318) (fun _ h9 => h9) rfl dX10_redo_75 ?_
      have hP : va_P (dC, dI) classes (([(oc8 x (.ref sh) (.ref lw) (.ref ro) (.ref bq) (.ref bp) (.ref dq) (.ref dp) (.ref lv) (.ref sl) (nI (dn + 1)) (nI bs) ul 0), (oc10 sl mc9 (.ref ea) (nI T)), (oc7 sh (.ref fa) (nI (ft + 1))), (oq fa cF 200 (va_up FA ft (some (fe (FT dn)))))] ++ [(oq ea cO cap5 SA), (oc11 (sp (dn + 1)) (wh (dn + 1)) (of9 (dn + 1)) (we (dn + 1)) (.ref (fe (FT dn))) ch5)]) ++ va_pl L7 f7) H := hP
      have hD : va_D A (([(oc8 x (.ref sh) (.ref lw) (.ref ro) (.ref bq) (.ref bp) (.ref dq) (.ref dp) (.ref lv) (.ref sl) (nI (dn + 1)) (nI bs) ul 0), (oc10 sl mc9 (.ref ea) (nI T)), (oc7 sh (.ref fa) (nI (ft + 1))), (oq fa cF 200 (va_up FA ft (some (fe (FT dn)))))] ++ [(oq ea cO cap5 SA), (oc11 (sp (dn + 1)) (wh (dn + 1)) (of9 (dn + 1)) (we (dn + 1)) (.ref (fe (FT dn))) ch5)]) ++ va_pl L7 f7) := hD
      obtain ⟨Lp3, fp3, hP, hD, hpin_3⟩ := pl_pin (cs := []) (old := []) (new := [(oq ea cO cap5 SA), (oc11 (sp (dn + 1)) (wh (dn + 1)) (of9 (dn + 1)) (we (dn + 1)) (.ref (fe (FT dn))) ch5)]) (cs1 := [(oq ea cO cap5 SA), (oc11 (sp (dn + 1)) (wh (dn + 1)) (of9 (dn + 1)) (we (dn + 1)) (.ref (fe (FT dn))) ch5)]) (X := [(oc8 x (.ref sh) (.ref lw) (.ref ro) (.ref bq) (.ref bp) (.ref dq) (.ref dp) (.ref lv) (.ref sl) (nI (dn + 1)) (nI bs) ul 0), (oc10 sl mc9 (.ref ea) (nI T)), (oc7 sh (.ref fa) (nI (ft + 1))), (oq fa cF 200 (va_up FA ft (some (fe (FT dn)))))]) (L := L7) (f := f7) rfl rfl (by rw [outPl_nil]; exact hP) (by rw [outPl_nil]; exact hD)
      obtain ⟨hfr_3, hkp_3, hce_3, hsx_3, hpw_3⟩ := id hpin_3
      have hk79 : kpT (fun g => ¬ g % 8 = 0) L f own Lp3 fp3 own := kp_re (cs := [(ea, .inl (cO, cap5, .inr (.inr (.inr (.inr SA))))), (sp (dn + 1), .inr (11, [.int (wh (dn + 1)), .int (of9 (dn + 1)), .int (we (dn + 1)), .ref (fe (FT dn)), ch5]))]) (by rw [hT_1]; exact hk7) (hkp_3 own own _ (fun _ _ => rfl) trivial) (fun c hc g e h => by simp only [List.mem_cons, List.not_mem_nil, or_false] at hc; rcases hc with rfl | rfl; (obtain ⟨e1, e2⟩ := ce_eq h hce5; rw [e1, e2]; exact hce_3 own 0 _ _ _ rfl hce5.2.2); (obtain ⟨e1, e2⟩ := ce_eq h hs2; rw [e1, e2]; exact hce_3 own 1 _ _ _ rfl hs2.2.2))
      have hF79 : FeA cI Lp3 fp3 own (FT T) fe (la (dn + 1)) cl (fun _ => .null) rk wd tw pa pb := FeA_cg (FeA_kp (hkp_3 own own (fun _ => True) (fun _ _ => rfl) trivial) (fun _ _ => ⟨trivial, trivial⟩) hF7) (fun q hq => by by_cases m : q ∈ qs5; exact ((hn7 q).1 m).symm; rw [(hn7 q).2 m]; exact (hql5 q hq m).symm)
      have hB6 := U_pos (FA1 := (va_up FA ft (some (fe (FT dn))))) (ft1 := FT (dn + 1)) hF79 hk79 hG9 hH9 hft9 (by omega) (by omega) rfl (fun q hq => by unfold va_up; by_cases e : q = ft; (rw [if_pos e, e, hft9]); (rw [if_neg e]; exact hFA9 q (by omega))) hc
      have hP9 := hP.part (cx := [(oc8 x (.ref sh) (.ref lw) (.ref ro) (.ref bq) (.ref bp) (.ref dq) (.ref dp) (.ref lv) (.ref sl) (nI (dn + 1)) (nI bs) ul 0), (oc10 sl mc9 (.ref ea) (nI T)), (oc7 sh (.ref fa) (nI (ft + 1))), (oq fa cF 200 (va_up FA ft (some (fe (FT dn)))))]) [0, 1, 2, 3] rfl
      have hD9 := hD.part (cx := [(oc8 x (.ref sh) (.ref lw) (.ref ro) (.ref bq) (.ref bp) (.ref dq) (.ref dp) (.ref lv) (.ref sl) (nI (dn + 1)) (nI bs) ul 0), (oc10 sl mc9 (.ref ea) (nI T)), (oc7 sh (.ref fa) (nI (ft + 1))), (oq fa cF 200 (va_up FA ft (some (fe (FT dn)))))]) [0, 1, 2, 3] (by decide) rfl
      have hE9 : (([(oc8 x (.ref sh) (.ref lw) (.ref ro) (.ref bq) (.ref bp) (.ref dq) (.ref dp) (.ref lv) (.ref sl) (nI (dn + 1)) (nI bs) ul 0), (oc10 sl mc9 (.ref ea) (nI T)), (oc7 sh (.ref fa) (nI (ft + 1))), (oq fa cF 200 (va_up FA ft (some (fe (FT dn)))))] ++ va_pl Lp3 fp3) : va_W) = ([(oc8 x (.ref sh) (.ref lw) (.ref ro) (.ref bq) (.ref bp) (.ref dq) (.ref dp) (.ref lv) (.ref sl) (nI (dn + 1)) (nI bs) ul 0), (oc10 sl mc9 (.ref ea) (nI T)), (oc7 sh (.ref fa) (nI (FT (dn + 1)))), (oq fa cF 200 (va_up FA ft (some (fe (FT dn)))))] ++ va_pl Lp3 fp3) := by rw [show ft + 1 = FT (dn + 1) by omega]
      rw [hE9] at hP9 hD9
      rw [hQ9]
      exact W.iret (v := nI (dn + 1)) hx hb hr (fun t ht hW => ⟨⟨rfl, Lp3, fp3, (va_up FA ft (some (fe (FT dn)))), (hB6), by rw [ht]; exact hP9, hD9⟩, hS.F ht⟩) hS.2.2 dX10_redo_78
    · have c_2 : ((T : Nat) : Int) ≤ ((dn : Nat) : Int) := zc_nlt (nI_toInt (by omega)) (nI_toInt (by omega)) c_2
      exfalso; omega
set_option maxHeartbeats 4000000 in
set_option maxRecDepth 100000 in
theorem k_undo_r (l : Launch) (dC : Nat → ClassId) (dI : Nat → Nat → Nat) (cI cZ cF : ClassId) (sz : Nat) (x : Nat) (sh : Nat) (lw : Nat) (ro : Nat) (bq : Nat) (bp : Nat) (dq : Nat) (dp : Nat) (lv : Nat) (sl : Nat) (ul : Int32) (su : Int32) (bs : Nat) (dn : Nat) (heq : dn = bs) (hd5 : dn ≤ 512) : Met l yX10_undo (.code yX10_undo cX10_undo 2 (some .int) :: ws0) ({ frames := 1, cells := 0, slots := 0, locals := 21 } : Room) (va_Pc [.ref x] (zPre (dC, dI) classes (zTy cI cZ cF) [(oc8 x (.ref sh) (.ref lw) (.ref ro) (.ref bq) (.ref bp) (.ref dq) (.ref dp) (.ref lv) (.ref sl) (nI dn) (nI bs) ul su)] sz zXN)) (zQ (some (.int (-1))) (fun t => va_P (dC, dI) classes [(oc8 x (.ref sh) (.ref lw) (.ref ro) (.ref bq) (.ref bp) (.ref dq) (.ref dp) (.ref lv) (.ref sl) (nI dn) (nI bs) ul 8)] t.heap ∧ va_D (va_A [(oc8 x (.ref sh) (.ref lw) (.ref ro) (.ref bq) (.ref bp) (.ref dq) (.ref dp) (.ref lv) (.ref sl) (nI dn) (nI bs) ul su)] sz) [(oc8 x (.ref sh) (.ref lw) (.ref ro) (.ref bq) (.ref bp) (.ref dq) (.ref dp) (.ref lv) (.ref sl) (nI dn) (nI bs) ul 8)]) (va_A [(oc8 x (.ref sh) (.ref lw) (.ref ro) (.ref bq) (.ref bp) (.ref dq) (.ref dp) (.ref lv) (.ref sl) (nI dn) (nI bs) ul su)] sz)) 0 0 (va_A [(oc8 x (.ref sh) (.ref lw) (.ref ro) (.ref bq) (.ref bp) (.ref dq) (.ref dp) (.ref lv) (.ref sl) (nI dn) (nI bs) ul su)] sz) := by
  refine Met.ofW (cc := cX10_undo) (maxL := 2) (ret := (some .int)) (by decide) rfl ?_
  intro p e s m args below meth c s₁ B hml hv
  obtain ⟨rfl, hsz, hP, hK, hD0, hXN⟩ := hv
  have hx := B.exec
  have hb := B.bytes
  have hr := B.returns
  have hts0 := atoms_spec (ws := .code yX10_undo cX10_undo 2 (some .int) :: ws0) B.pre
  have hts : ∀ w9 ∈ ws0, w9.before ([.ref x] : List Value).toArray s = true := fun w9 h => hts0 w9 (List.mem_cons_of_mem _ h)
  have hown : s.vm.findClass "ScaleShop" = some m.cls := findClass_of_methodNamed B.named
  have hlocks := B.notSynchronized
  subst hsz
  have hD := hD0.self (sz := s.heap.size)
  clear hD0
  generalize hAe : va_A [(oc8 x (.ref sh) (.ref lw) (.ref ro) (.ref bq) (.ref bp) (.ref dq) (.ref dp) (.ref lv) (.ref sl) (nI dn) (nI bs) ul su)] s.heap.size = A at hD ⊢
  have hA : ∀ q : Nat, s.heap.size ≤ q → A q := fun q h => by rw [← hAe]; exact Or.inr h
  clear hAe
  have hS : va_S A s.heap s.heap [] := va_S.rf
  have hP : va_P (dC, dI) classes [(oc8 x (.ref sh) (.ref lw) (.ref ro) (.ref bq) (.ref bp) (.ref dq) (.ref dp) (.ref lv) (.ref sl) (nI dn) (nI bs) ul su)] s.heap := hP
  obtain ⟨Q9, hQ9⟩ : ∃ Q9 : State → Prop, Q9 = MQ below (zQ (some (.int (-1))) (fun t => va_P (dC, dI) classes [(oc8 x (.ref sh) (.ref lw) (.ref ro) (.ref bq) (.ref bp) (.ref dq) (.ref dp) (.ref lv) (.ref sl) (nI dn) (nI bs) ul 8)] t.heap ∧ va_D A [(oc8 x (.ref sh) (.ref lw) (.ref ro) (.ref bq) (.ref bp) (.ref dq) (.ref dp) (.ref lv) (.ref sl) (nI dn) (nI bs) ul 8)]) A) ([.ref x] : List Value).toArray s 0 0 A := ⟨_, rfl⟩
  rw [← hQ9]
  have hl := lv_entry ([.ref x]) (n := 2) (Nat.le_of_ble_eq_true rfl)
  rw [lg_entry_eq]
  generalize (lg_sl ([.ref x]) ++ List.replicate (2 - (lg_sl ([.ref x])).length) Slot.unset).toArray = ls at hl ⊢
  have hl : lv_has ls 2 [(0, .ref x)] := hl
  refine lv_aload_n hx hb dX10_undo_0 rfl (lv_at hl 0 rfl) ?_
  refine va_get (D := (dC, dI)) (ci := 8) (v := .int (nI dn)) (C := RX10) (T := TX10) (N := 13) hx hb hts inX10 hown hK hP 0 rfl rfl 9 (by decide) (hts _ mw_318) (fun _ h9 => h9) rfl dX10_undo_1 ?_
  refine lv_aload_n hx hb dX10_undo_4 rfl (lv_at hl 0 rfl) ?_
  refine va_get (D := (dC, dI)) (ci := 8) (v := .int (nI bs)) (C := RX10) (T := TX10) (N := 13) hx hb hts inX10 hown hK hP 0 rfl rfl 10 (by decide) (hts _ mw_319) (fun _ h9 => h9) rfl dX10_undo_5 ?_
  refine lv_icmp_le (tgt := 25) hx hb dX10_undo_8 (by decide) (fun c_1 => ?_) (fun c_1 => ?_)
  · have c_1 : ((dn : Nat) : Int) ≤ ((bs : Nat) : Int) := zc_le (nI_toInt (by omega)) (nI_toInt (by omega)) c_1
    refine lv_aload_n hx hb dX10_undo_25 rfl (lv_at hl 0 rfl) ?_
    refine lv_bipush (v := 8) hx hb dX10_undo_26 (by decide) ?_
    have hPc := hP.sub (ws' := [(oc8 x (.ref sh) (.ref lw) (.ref ro) (.ref bq) (.ref bp) (.ref dq) (.ref dp) (.ref lv) (.ref sl) (nI dn) (nI bs) ul su)]) [0] rfl
    have hDc := hD.sub (ws' := [(oc8 x (.ref sh) (.ref lw) (.ref ro) (.ref bq) (.ref bp) (.ref dq) (.ref dp) (.ref lv) (.ref sl) (nI dn) (nI bs) ul su)]) [0] (by decide) rfl
    have hFc := va_free (wc := [(oc8 x (.ref sh) (.ref lw) (.ref ro) (.ref bq) (.ref bp) (.ref dq) (.ref dp) (.ref lv) (.ref sl) (nI dn) (nI bs) ul su)]) hD hS hA [0] rfl
    refine zcall (st1 := [.int (-1)]) (va_runV (As := [.int 8]) (rest := []) ⟨hx, hb, hml, hown, hts⟩ (k_refuse_8 l dC dI cI cZ cF s.heap.size x sh lw ro bq bp dq dp lv sl (nI bs) ul su (nI dn) ) (cwV 1 hts (zz_gV mw_356 mw_358 mw_0 mw_99 mc_yX10_refuse) rfl rfl rfl (by decide +kernel) ⟨Nat.le_of_ble_eq_true rfl, Nat.le_of_ble_eq_true rfl⟩) (zPV2 (q0 := 0) (ci := 8) hPc hDc hK hXN rfl rfl) rfl rfl hl.1 rfl (lv_room (Nat.le_of_ble_eq_true rfl)) dX10_undo_28 ⟨Nat.le_of_ble_eq_true rfl, Nat.le_of_ble_eq_true rfl⟩) hS hFc hFc rfl (fun t H1 locs ht hB hk1 hS => ?_)
    obtain ⟨hP1, hD1⟩ := hB
    rw [ht] at hP1
    obtain ⟨hP, hD⟩ := va_join (wr := []) (w1 := [(oc8 x (.ref sh) (.ref lw) (.ref ro) (.ref bq) (.ref bp) (.ref dq) (.ref dp) (.ref lv) (.ref sl) (nI dn) (nI bs) ul 8)]) hP hD [0] [] rfl rfl (by decide) (by decide) hk1 hFc hP1 hD1
    clear hk1 hPc hDc hFc hP1 hD1 ht
    generalize H1 = H at hP hS ⊢
    have hP : va_P (dC, dI) classes [(oc8 x (.ref sh) (.ref lw) (.ref ro) (.ref bq) (.ref bp) (.ref dq) (.ref dp) (.ref lv) (.ref sl) (nI dn) (nI bs) ul 8)] H := hP
    have hD : va_D A [(oc8 x (.ref sh) (.ref lw) (.ref ro) (.ref bq) (.ref bp) (.ref dq) (.ref dp) (.ref lv) (.ref sl) (nI dn) (nI bs) ul 8)] := hD
    have hP9 := hP.sub (ws' := [(oc8 x (.ref sh) (.ref lw) (.ref ro) (.ref bq) (.ref bp) (.ref dq) (.ref dp) (.ref lv) (.ref sl) (nI dn) (nI bs) ul 8)]) [0] rfl
    have hD9 := hD.sub (ws' := [(oc8 x (.ref sh) (.ref lw) (.ref ro) (.ref bq) (.ref bp) (.ref dq) (.ref dp) (.ref lv) (.ref sl) (nI dn) (nI bs) ul 8)]) [0] (by decide) rfl
    rw [hQ9]
    exact W.iret (v := (-1)) hx hb hr (fun t ht hW => ⟨⟨rfl, by rw [ht]; exact hP9, hD9⟩, hS.F ht⟩) hS.2.2 dX10_undo_31
  · have c_1 : ((bs : Nat) : Int) < ((dn : Nat) : Int) := zc_nle (nI_toInt (by omega)) (nI_toInt (by omega)) c_1
    exfalso; omega
set_option maxHeartbeats 4000000 in
set_option maxRecDepth 100000 in
theorem k_redo_r (l : Launch) (dC : Nat → ClassId) (dI : Nat → Nat → Nat) (cI cZ cF : ClassId) (sz : Nat) (x : Nat) (sh : Nat) (lw : Nat) (ro : Nat) (bq : Nat) (bp : Nat) (dq : Nat) (dp : Nat) (lv : Nat) (sl : Nat) (sd : Int32) (ul : Int32) (su : Int32) (ea : Nat) (dn : Nat) (T : Nat) (mc9 : Int32) (heq : dn = T) (hd5 : dn ≤ 512) : Met l yX10_redo (.code yX10_redo cX10_redo 2 (some .int) :: ws0) ({ frames := 1, cells := 0, slots := 0, locals := 21 } : Room) (va_Pc [.ref x] (zPre (dC, dI) classes (zTy cI cZ cF) [(oc8 x (.ref sh) (.ref lw) (.ref ro) (.ref bq) (.ref bp) (.ref dq) (.ref dp) (.ref lv) (.ref sl) (nI dn) sd ul su), (oc10 sl mc9 (.ref ea) (nI T))] sz zXN)) (zQ (some (.int (-1))) (fun t => va_P (dC, dI) classes [(oc8 x (.ref sh) (.ref lw) (.ref ro) (.ref bq) (.ref bp) (.ref dq) (.ref dp) (.ref lv) (.ref sl) (nI dn) sd ul 8), (oc10 sl mc9 (.ref ea) (nI T))] t.heap ∧ va_D (va_A [(oc8 x (.ref sh) (.ref lw) (.ref ro) (.ref bq) (.ref bp) (.ref dq) (.ref dp) (.ref lv) (.ref sl) (nI dn) sd ul su), (oc10 sl mc9 (.ref ea) (nI T))] sz) [(oc8 x (.ref sh) (.ref lw) (.ref ro) (.ref bq) (.ref bp) (.ref dq) (.ref dp) (.ref lv) (.ref sl) (nI dn) sd ul 8), (oc10 sl mc9 (.ref ea) (nI T))]) (va_A [(oc8 x (.ref sh) (.ref lw) (.ref ro) (.ref bq) (.ref bp) (.ref dq) (.ref dp) (.ref lv) (.ref sl) (nI dn) sd ul su), (oc10 sl mc9 (.ref ea) (nI T))] sz)) 0 0 (va_A [(oc8 x (.ref sh) (.ref lw) (.ref ro) (.ref bq) (.ref bp) (.ref dq) (.ref dp) (.ref lv) (.ref sl) (nI dn) sd ul su), (oc10 sl mc9 (.ref ea) (nI T))] sz) := by
  refine Met.ofW (cc := cX10_redo) (maxL := 2) (ret := (some .int)) (by decide) rfl ?_
  intro p e s m args below meth c s₁ B hml hv
  obtain ⟨rfl, hsz, hP, hK, hD0, hXN⟩ := hv
  have hx := B.exec
  have hb := B.bytes
  have hr := B.returns
  have hts0 := atoms_spec (ws := .code yX10_redo cX10_redo 2 (some .int) :: ws0) B.pre
  have hts : ∀ w9 ∈ ws0, w9.before ([.ref x] : List Value).toArray s = true := fun w9 h => hts0 w9 (List.mem_cons_of_mem _ h)
  have hown : s.vm.findClass "ScaleShop" = some m.cls := findClass_of_methodNamed B.named
  have hlocks := B.notSynchronized
  subst hsz
  have hD := hD0.self (sz := s.heap.size)
  clear hD0
  generalize hAe : va_A [(oc8 x (.ref sh) (.ref lw) (.ref ro) (.ref bq) (.ref bp) (.ref dq) (.ref dp) (.ref lv) (.ref sl) (nI dn) sd ul su), (oc10 sl mc9 (.ref ea) (nI T))] s.heap.size = A at hD ⊢
  have hA : ∀ q : Nat, s.heap.size ≤ q → A q := fun q h => by rw [← hAe]; exact Or.inr h
  clear hAe
  have hS : va_S A s.heap s.heap [] := va_S.rf
  have hP : va_P (dC, dI) classes [(oc8 x (.ref sh) (.ref lw) (.ref ro) (.ref bq) (.ref bp) (.ref dq) (.ref dp) (.ref lv) (.ref sl) (nI dn) sd ul su), (oc10 sl mc9 (.ref ea) (nI T))] s.heap := hP
  obtain ⟨Q9, hQ9⟩ : ∃ Q9 : State → Prop, Q9 = MQ below (zQ (some (.int (-1))) (fun t => va_P (dC, dI) classes [(oc8 x (.ref sh) (.ref lw) (.ref ro) (.ref bq) (.ref bp) (.ref dq) (.ref dp) (.ref lv) (.ref sl) (nI dn) sd ul 8), (oc10 sl mc9 (.ref ea) (nI T))] t.heap ∧ va_D A [(oc8 x (.ref sh) (.ref lw) (.ref ro) (.ref bq) (.ref bp) (.ref dq) (.ref dp) (.ref lv) (.ref sl) (nI dn) sd ul 8), (oc10 sl mc9 (.ref ea) (nI T))]) A) ([.ref x] : List Value).toArray s 0 0 A := ⟨_, rfl⟩
  rw [← hQ9]
  have hl := lv_entry ([.ref x]) (n := 2) (Nat.le_of_ble_eq_true rfl)
  rw [lg_entry_eq]
  generalize (lg_sl ([.ref x]) ++ List.replicate (2 - (lg_sl ([.ref x])).length) Slot.unset).toArray = ls at hl ⊢
  have hl : lv_has ls 2 [(0, .ref x)] := hl
  refine lv_aload_n hx hb dX10_redo_0 rfl (lv_at hl 0 rfl) ?_
  refine va_get (D := (dC, dI)) (ci := 8) (v := .int (nI dn)) (C := RX10) (T := TX10) (N := 13) hx hb hts inX10 hown hK hP 0 rfl rfl 9 (by decide) (hts _ mw_318) (fun _ h9 => h9) rfl dX10_redo_1 ?_
  refine lv_aload_n hx hb dX10_redo_4 rfl (lv_at hl 0 rfl) ?_
  refine va_get (D := (dC, dI)) (ci := 8) (v := .ref sl) (C := RX10) (T := TX10) (N := 13) hx hb hts inX10 hown hK hP 0 rfl rfl 8 (by decide) (hts _ mw_317) (fun _ h9 => h9) rfl dX10_redo_5 ?_
  have hPc := hP.sub (ws' := [(oc10 sl mc9 (.ref ea) (nI T))]) [1] rfl
  have hDc := hD.sub (ws' := [(oc10 sl mc9 (.ref ea) (nI T))]) [1] (by decide) rfl
  have hFc := va_free (wc := [(oc10 sl mc9 (.ref ea) (nI T))]) hD hS hA [1] rfl
  refine zcall (st1 := [.int (nI T), .int (nI dn)]) (va_runV (As := []) (rest := [.int (nI dn)]) ⟨hx, hb, hml, hown, hts⟩ (k_AL_size l dC dI cI cZ cF s.heap.size sl ea T mc9 ) (cwV 0 hts (zz_gV mw_468 mw_469 mw_470 mw_109 mc_yJx4a65c_size_8abf5) rfl rfl rfl (by decide +kernel) ⟨Nat.le_of_ble_eq_true rfl, Nat.le_of_ble_eq_true rfl⟩) (zPV2 (q0 := 0) (ci := 10) hPc hDc hK hXN rfl rfl) rfl rfl hl.1 rfl (lv_room (Nat.le_of_ble_eq_true rfl)) dX10_redo_8 ⟨Nat.le_of_ble_eq_true rfl, Nat.le_of_ble_eq_true rfl⟩) hS hFc hFc rfl (fun t H1 locs ht hB hk1 hS => ?_)
  obtain ⟨hP1, hD1⟩ := hB
  rw [ht] at hP1
  obtain ⟨hP, hD⟩ := va_join (wr := [(oc8 x (.ref sh) (.ref lw) (.ref ro) (.ref bq) (.ref bp) (.ref dq) (.ref dp) (.ref lv) (.ref sl) (nI dn) sd ul su)]) (w1 := [(oc10 sl mc9 (.ref ea) (nI T))]) hP hD [1] [0] rfl rfl (by decide) (by decide) hk1 hFc hP1 hD1
  clear hk1 hPc hDc hFc hP1 hD1 ht
  generalize H1 = H at hP hS ⊢
  have hP : va_P (dC, dI) classes [(oc8 x (.ref sh) (.ref lw) (.ref ro) (.ref bq) (.ref bp) (.ref dq) (.ref dp) (.ref lv) (.ref sl) (nI dn) sd ul su), (oc10 sl mc9 (.ref ea) (nI T))] H := hP
  have hD : va_D A [(oc8 x (.ref sh) (.ref lw) (.ref ro) (.ref bq) (.ref bp) (.ref dq) (.ref dp) (.ref lv) (.ref sl) (nI dn) sd ul su), (oc10 sl mc9 (.ref ea) (nI T))] := hD
  refine lv_icmp_lt (tgt := 21) hx hb dX10_redo_11 (by decide) (fun c_1 => ?_) (fun c_1 => ?_)
  · have c_1 : ((dn : Nat) : Int) < ((T : Nat) : Int) := zc_lt (nI_toInt (by omega)) (nI_toInt (by omega)) c_1
    exfalso; omega
  · have c_1 : ((T : Nat) : Int) ≤ ((dn : Nat) : Int) := zc_nlt (nI_toInt (by omega)) (nI_toInt (by omega)) c_1
    refine lv_aload_n hx hb dX10_redo_14 rfl (lv_at hl 0 rfl) ?_
    refine lv_bipush (v := 8) hx hb dX10_redo_15 (by decide) ?_
    have hPc := hP.sub (ws' := [(oc8 x (.ref sh) (.ref lw) (.ref ro) (.ref bq) (.ref bp) (.ref dq) (.ref dp) (.ref lv) (.ref sl) (nI dn) sd ul su)]) [0] rfl
    have hDc := hD.sub (ws' := [(oc8 x (.ref sh) (.ref lw) (.ref ro) (.ref bq) (.ref bp) (.ref dq) (.ref dp) (.ref lv) (.ref sl) (nI dn) sd ul su)]) [0] (by decide) rfl
    have hFc := va_free (wc := [(oc8 x (.ref sh) (.ref lw) (.ref ro) (.ref bq) (.ref bp) (.ref dq) (.ref dp) (.ref lv) (.ref sl) (nI dn) sd ul su)]) hD hS hA [0] rfl
    refine zcall (st1 := [.int (-1)]) (va_runV (As := [.int 8]) (rest := []) ⟨hx, hb, hml, hown, hts⟩ (k_refuse_8 l dC dI cI cZ cF H.size x sh lw ro bq bp dq dp lv sl sd ul su (nI dn) ) (cwV 1 hts (zz_gV mw_356 mw_358 mw_0 mw_99 mc_yX10_refuse) rfl rfl rfl (by decide +kernel) ⟨Nat.le_of_ble_eq_true rfl, Nat.le_of_ble_eq_true rfl⟩) (zPV2 (q0 := 0) (ci := 8) hPc hDc hK hXN rfl rfl) rfl rfl hl.1 rfl (lv_room (Nat.le_of_ble_eq_true rfl)) dX10_redo_17 ⟨Nat.le_of_ble_eq_true rfl, Nat.le_of_ble_eq_true rfl⟩) hS hFc hFc rfl (fun t H1 locs ht hB hk1 hS => ?_)
    obtain ⟨hP1, hD1⟩ := hB
    rw [ht] at hP1
    obtain ⟨hP, hD⟩ := va_join (wr := [(oc10 sl mc9 (.ref ea) (nI T))]) (w1 := [(oc8 x (.ref sh) (.ref lw) (.ref ro) (.ref bq) (.ref bp) (.ref dq) (.ref dp) (.ref lv) (.ref sl) (nI dn) sd ul 8)]) hP hD [0] [1] rfl rfl (by decide) (by decide) hk1 hFc hP1 hD1
    clear hk1 hPc hDc hFc hP1 hD1 ht
    generalize H1 = H at hP hS ⊢
    have hP := hP.sub (ws' := [(oc8 x (.ref sh) (.ref lw) (.ref ro) (.ref bq) (.ref bp) (.ref dq) (.ref dp) (.ref lv) (.ref sl) (nI dn) sd ul 8), (oc10 sl mc9 (.ref ea) (nI T))]) [1, 0] rfl
    have hD := hD.sub (ws' := [(oc8 x (.ref sh) (.ref lw) (.ref ro) (.ref bq) (.ref bp) (.ref dq) (.ref dp) (.ref lv) (.ref sl) (nI dn) sd ul 8), (oc10 sl mc9 (.ref ea) (nI T))]) [1, 0] (by decide) rfl
    have hP : va_P (dC, dI) classes [(oc8 x (.ref sh) (.ref lw) (.ref ro) (.ref bq) (.ref bp) (.ref dq) (.ref dp) (.ref lv) (.ref sl) (nI dn) sd ul 8), (oc10 sl mc9 (.ref ea) (nI T))] H := hP
    have hD : va_D A [(oc8 x (.ref sh) (.ref lw) (.ref ro) (.ref bq) (.ref bp) (.ref dq) (.ref dp) (.ref lv) (.ref sl) (nI dn) sd ul 8), (oc10 sl mc9 (.ref ea) (nI T))] := hD
    have hP9 := hP.sub (ws' := [(oc8 x (.ref sh) (.ref lw) (.ref ro) (.ref bq) (.ref bp) (.ref dq) (.ref dp) (.ref lv) (.ref sl) (nI dn) sd ul 8), (oc10 sl mc9 (.ref ea) (nI T))]) [0, 1] rfl
    have hD9 := hD.sub (ws' := [(oc8 x (.ref sh) (.ref lw) (.ref ro) (.ref bq) (.ref bp) (.ref dq) (.ref dp) (.ref lv) (.ref sl) (nI dn) sd ul 8), (oc10 sl mc9 (.ref ea) (nI T))]) [0, 1] (by decide) rfl
    rw [hQ9]
    exact W.iret (v := (-1)) hx hb hr (fun t ht hW => ⟨⟨rfl, by rw [ht]; exact hP9, hD9⟩, hS.F ht⟩) hS.2.2 dX10_redo_20
