section
set_option maxHeartbeats 4000000 in
set_option maxRecDepth 100000 in
theorem k_undo_y (l : Launch) (dC : Nat → ClassId) (dI : Nat → Nat → Nat) (cI cZ cF : ClassId) (sz : Nat) (cO : ClassId) (e0 : Nat) (mi : Nat) (x : Nat) (sh : Nat) (lw : Nat) (ro : Nat) (bq : Nat) (bp : Nat) (dq : Nat) (dp : Nat) (lv : Nat) (sl : Nat) (ul : Int32) (su : Int32) (ea : Nat) (mc9 : Int32) (fa : Nat) (FA : Nat → Option Nat) (bs : Nat) (dn : Nat) (T : Nat) (ft : Nat) (FT : Nat → Nat) (V : Nat → Nat → Nat → Int32) (VX : Nat → Nat → Int32) (VY : Nat → Nat → Int32) (tn : Nat → Int32) (rk : Nat → Int32) (wd : Nat → Int32) (tw : Nat → Int32) (pa : Nat → Int32) (pb : Nat → Int32) (wh : Nat → Int32) (of9 : Nat → Int32) (we : Nat → Int32) (kd : Nat → Int32) (st : Nat → Int32) (gb : Nat → Int32) (it : Nat → Int32) (mn : Nat → Int32) (cx : Nat → Int32) (cy : Nat → Int32) (L : List Nat) (f : Nat → va_E) (kd1 : Nat → Int32) (st1 : Nat → Int32) (gb1 : Nat → Int32) (it1 : Nat → Int32) (mn1 : Nat → Int32) (cx1 : Nat → Int32) (cy1 : Nat → Int32) (hB : shB cI cO L f e0 FA ea bs dn T ft FT V VX VY tn rk wd tw pa pb wh of9 we kd st gb it mn cx cy) (hlt : bs < dn) (hc : ∀ q, q < FT (dn - 1) → kd1 q = V (dn - 1) 0 q ∧ st1 q = V (dn - 1) 1 q ∧ gb1 q = V (dn - 1) 2 q ∧ it1 q = V (dn - 1) 3 q ∧ ((¬ (V (dn - 1) 1 q).toInt = 0 ∧ (tn q).toInt = 0) → nN (mn1 q) = nN (V (dn - 1) 4 q) ∧ ∀ k, k < nN (V (dn - 1) 4 q) → cF40 cx1 q k = cF40 (VX (dn - 1)) q k ∧ cF40 cy1 q k = cF40 (VY (dn - 1)) q k) ∧ ((V (dn - 1) 1 q).toInt = 0 → mn1 q = mn q ∧ ∀ k, k < 40 → cF40 cx1 q k = cF40 cx q k ∧ cF40 cy1 q k = cF40 cy q k)) : Met l yX10_undo (.code yX10_undo cX10_undo 2 (some .int) :: ws0) ({ frames := 3, cells := 0, slots := 0, locals := 64 } : Room) (va_Pc [.ref x] (zPre (dC, dI) classes (zTyO cI cZ cF cO) ([(oc8 x (.ref sh) (.ref lw) (.ref ro) (.ref bq) (.ref bp) (.ref dq) (.ref dp) (.ref lv) (.ref sl) (nI dn) (nI bs) ul su), (oc10 sl mc9 (.ref ea) (nI T)), (oc7 sh (.ref fa) (nI ft)), (oq fa cF 200 FA)] ++ va_pl L f) sz (zXL e0 mi (va_A ([(oc8 x (.ref sh) (.ref lw) (.ref ro) (.ref bq) (.ref bp) (.ref dq) (.ref dp) (.ref lv) (.ref sl) (nI dn) (nI bs) ul su), (oc10 sl mc9 (.ref ea) (nI T)), (oc7 sh (.ref fa) (nI ft)), (oq fa cF 200 FA)] ++ va_pl L f) sz)))) (zQ (some (.int (nI (dn - 1 + 1)))) (fun t => ∃ (L1 : List Nat), ∃ (f1 : Nat → va_E), ∃ (FA1 : Nat → Option Nat), (shB cI cO L1 f1 e0 FA1 ea bs (dn - 1) T (FT (dn - 1)) FT V VX VY tn rk wd tw pa pb wh of9 we kd1 st1 gb1 it1 mn1 cx1 cy1) ∧ va_P (dC, dI) classes ([(oc8 x (.ref sh) (.ref lw) (.ref ro) (.ref bq) (.ref bp) (.ref dq) (.ref dp) (.ref lv) (.ref sl) (nI (dn - 1)) (nI bs) ul 0), (oc10 sl mc9 (.ref ea) (nI T)), (oc7 sh (.ref fa) (nI (FT (dn - 1)))), (oq fa cF 200 FA1)] ++ va_pl L1 f1) t.heap ∧ va_D (va_A ([(oc8 x (.ref sh) (.ref lw) (.ref ro) (.ref bq) (.ref bp) (.ref dq) (.ref dp) (.ref lv) (.ref sl) (nI dn) (nI bs) ul su), (oc10 sl mc9 (.ref ea) (nI T)), (oc7 sh (.ref fa) (nI ft)), (oq fa cF 200 FA)] ++ va_pl L f) sz) ([(oc8 x (.ref sh) (.ref lw) (.ref ro) (.ref bq) (.ref bp) (.ref dq) (.ref dp) (.ref lv) (.ref sl) (nI (dn - 1)) (nI bs) ul 0), (oc10 sl mc9 (.ref ea) (nI T)), (oc7 sh (.ref fa) (nI (FT (dn - 1)))), (oq fa cF 200 FA1)] ++ va_pl L1 f1)) (va_A ([(oc8 x (.ref sh) (.ref lw) (.ref ro) (.ref bq) (.ref bp) (.ref dq) (.ref dp) (.ref lv) (.ref sl) (nI dn) (nI bs) ul su), (oc10 sl mc9 (.ref ea) (nI T)), (oc7 sh (.ref fa) (nI ft)), (oq fa cF 200 FA)] ++ va_pl L f) sz)) 0 0 (va_A ([(oc8 x (.ref sh) (.ref lw) (.ref ro) (.ref bq) (.ref bp) (.ref dq) (.ref dp) (.ref lv) (.ref sl) (nI dn) (nI bs) ul su), (oc10 sl mc9 (.ref ea) (nI T)), (oc7 sh (.ref fa) (nI ft)), (oq fa cF 200 FA)] ++ va_pl L f) sz) := by
  refine Met.ofW (cc := cX10_undo) (maxL := 2) (ret := (some .int)) rfl rfl ?_
  intro p e s m args below meth c s₁ B hml hv
  obtain ⟨rfl, hsz, hP, hK, hD0, hXL⟩ := hv
  have hx := B.exec
  have hb := B.bytes
  have hr := B.returns
  have hts0 := atoms_spec (ws := .code yX10_undo cX10_undo 2 (some .int) :: ws0) B.pre
  have hts : ∀ w9 ∈ ws0, w9.before ([.ref x] : List Value).toArray s = true := fun w9 h => hts0 w9 (List.mem_cons_of_mem _ h)
  have hown : s.vm.findClass "ScaleShop" = some m.cls := findClass_of_methodNamed B.named
  have hlocks := B.notSynchronized
  subst hsz
  have hD := hD0.self (sz := s.heap.size)
  clear hD0
  generalize hAe : va_A ([(oc8 x (.ref sh) (.ref lw) (.ref ro) (.ref bq) (.ref bp) (.ref dq) (.ref dp) (.ref lv) (.ref sl) (nI dn) (nI bs) ul su), (oc10 sl mc9 (.ref ea) (nI T)), (oc7 sh (.ref fa) (nI ft)), (oq fa cF 200 FA)] ++ va_pl L f) s.heap.size = A at hD hXL ⊢
  have hA : ∀ q : Nat, s.heap.size ≤ q → A q := fun q h => by rw [← hAe]; exact Or.inr h
  clear hAe
  have hS : va_S A s.heap s.heap [] := va_S.rf
  have hXN := hXL.1
  have hK3 := hK.sub [0, 1, 2] rfl
  have hP : va_P (dC, dI) classes ([(oc8 x (.ref sh) (.ref lw) (.ref ro) (.ref bq) (.ref bp) (.ref dq) (.ref dp) (.ref lv) (.ref sl) (nI dn) (nI bs) ul su), (oc10 sl mc9 (.ref ea) (nI T)), (oc7 sh (.ref fa) (nI ft)), (oq fa cF 200 FA)] ++ va_pl L f) s.heap := hP
  obtain ⟨Q9, hQ9⟩ : ∃ Q9 : State → Prop, Q9 = MQ below (zQ (some (.int (nI (dn - 1 + 1)))) (fun t => ∃ (L1 : List Nat), ∃ (f1 : Nat → va_E), ∃ (FA1 : Nat → Option Nat), (shB cI cO L1 f1 e0 FA1 ea bs (dn - 1) T (FT (dn - 1)) FT V VX VY tn rk wd tw pa pb wh of9 we kd1 st1 gb1 it1 mn1 cx1 cy1) ∧ va_P (dC, dI) classes ([(oc8 x (.ref sh) (.ref lw) (.ref ro) (.ref bq) (.ref bp) (.ref dq) (.ref dp) (.ref lv) (.ref sl) (nI (dn - 1)) (nI bs) ul 0), (oc10 sl mc9 (.ref ea) (nI T)), (oc7 sh (.ref fa) (nI (FT (dn - 1)))), (oq fa cF 200 FA1)] ++ va_pl L1 f1) t.heap ∧ va_D A ([(oc8 x (.ref sh) (.ref lw) (.ref ro) (.ref bq) (.ref bp) (.ref dq) (.ref dp) (.ref lv) (.ref sl) (nI (dn - 1)) (nI bs) ul 0), (oc10 sl mc9 (.ref ea) (nI T)), (oc7 sh (.ref fa) (nI (FT (dn - 1)))), (oq fa cF 200 FA1)] ++ va_pl L1 f1)) A) ([.ref x] : List Value).toArray s 0 0 A := ⟨_, rfl⟩
  rw [← hQ9]
  have hl := lv_entry ([.ref x]) (n := 2) (Nat.le_of_ble_eq_true rfl)
  rw [lg_entry_eq]
  generalize (lg_sl ([.ref x]) ++ List.replicate (2 - (lg_sl ([.ref x])).length) Slot.unset).toArray = ls at hl ⊢
  have hl : lv_has ls 2 [(0, .ref x)] := hl
  obtain ⟨own, fe, cl, la, sp, SA, hG9, hH9, hft9⟩ := hB
  have hN9 := hG9.2.2.2.2.2.1
  have h200 : ft ≤ 200 := Nat.le_trans hN9.2.2.2.2.1 hN9.2.2.2.2.2
  have hFT2 := hN9.2.2.2.2.2
  have hFA9 := hG9.2.2.2.2.2.2
  have hdT := hN9.2.1
  have hT5 := hN9.2.2.1
  have hbd := hN9.1
  obtain ⟨hs1, mv5, ch5, hs2, hs3⟩ := hG9.2.2.2.1 (dn) (by omega) (by omega)
  obtain ⟨⟨qs5, hch5, hqs5, hql5⟩, hmv5⟩ := hs3 (by omega)
  obtain ⟨cap5, hce5, hnc5, hc10, hc1k, hent⟩ : ∃ cap : Nat, ce L f own 8002 ea (.inl (cO, cap, .inr (.inr (.inr (.inr SA))))) ∧ T ≤ cap ∧ 10 ≤ cap ∧ cap ≤ 1000 ∧ ∀ i, i < T → ∃ (y : Nat) (vs : List Value), SA i = some y ∧ ce L f own 8001 y (.inr (11, vs)) := (hG9.2.2.2.2.1).resolve_left (fun g => by omega)
  rcases hmv5 with ⟨hf5, hm5⟩ | ⟨hf5, hm5⟩
  · skip
    subst hm5
    have hc9_1 : inPl L f [(oq ea cO cap5 SA), (oc11 (sp dn) (wh dn) (of9 dn) (we dn) .null ch5)] := ⟨ce_pl hce5, ce_pl hs2, trivial⟩
    have hD0_1 := hD
    obtain ⟨hP, hD⟩ := pl_out hP hD [(oq ea cO cap5 SA), (oc11 (sp dn) (wh dn) (of9 dn) (we dn) .null ch5)] hc9_1 (pw2 (ca_ne hs2.2.1 hce5.2.1).symm)
    generalize hT_1 : outPl L [(oq ea cO cap5 SA), (oc11 (sp dn) (wh dn) (of9 dn) (we dn) .null ch5)] = T_1 at hP hD
    obtain ⟨hP, hD⟩ : zPD (dC, dI) classes A ([(oc8 x (.ref sh) (.ref lw) (.ref ro) (.ref bq) (.ref bp) (.ref dq) (.ref dp) (.ref lv) (.ref sl) (nI dn) (nI bs) ul su), (oc10 sl mc9 (.ref ea) (nI T)), (oc7 sh (.ref fa) (nI ft)), (oq fa cF 200 FA), (oq ea cO cap5 SA), (oc11 (sp dn) (wh dn) (of9 dn) (we dn) .null ch5)] ++ va_pl T_1 f) s.heap := ⟨hP, hD⟩
    refine lv_aload_n hx hb dX10_undo_0 rfl (lv_at hl 0 rfl) ?_
    refine va_get (D := (dC, dI)) (ci := 8) (v := .int (nI dn)) (C := RX10) (T := TX10) (N := 13) hx hb hts inX10 hown hK hP 0 rfl rfl 9 (Nat.le_of_ble_eq_true rfl) (hts _ mw_318) (fun _ h9 => h9) rfl dX10_undo_1 ?_
    refine lv_aload_n hx hb dX10_undo_4 rfl (lv_at hl 0 rfl) ?_
    refine va_get (D := (dC, dI)) (ci := 8) (v := .int (nI bs)) (C := RX10) (T := TX10) (N := 13) hx hb hts inX10 hown hK hP 0 rfl rfl 10 (Nat.le_of_ble_eq_true rfl) (hts _ mw_319) (fun _ h9 => h9) rfl dX10_undo_5 ?_
    have b9_2 : dn < 2147483648 := by omega
    have b9_3 : bs < 2147483648 := by omega
    refine lv_icmp_le (tgt := 25) hx hb dX10_undo_8 rfl (fun c_1 => ?_) (fun c_1 => ?_)
    · have c_1 : ((dn : Nat) : Int) ≤ ((bs : Nat) : Int) := zc_le (nI_toInt b9_2) (nI_toInt b9_3) c_1
      exfalso; omega
    · have c_1 : ((bs : Nat) : Int) < ((dn : Nat) : Int) := zc_nle (nI_toInt b9_2) (nI_toInt b9_3) c_1
      refine lv_aload_n hx hb dX10_undo_11 rfl (lv_at hl 0 rfl) ?_
      refine va_get (D := (dC, dI)) (ci := 8) (v := .int (nI dn)) (C := RX10) (T := TX10) (N := 13) hx hb hts inX10 hown hK hP 0 rfl rfl 9 (Nat.le_of_ble_eq_true rfl) (hts _ mw_318) (fun _ h9 => h9) rfl dX10_undo_12 ?_
      refine lv_aload_n hx hb dX10_undo_15 rfl (lv_at hl 0 rfl) ?_
      refine va_get (D := (dC, dI)) (ci := 8) (v := .ref sl) (C := RX10) (T := TX10) (N := 13) hx hb hts inX10 hown hK hP 0 rfl rfl 8 (Nat.le_of_ble_eq_true rfl) (hts _ mw_317) (fun _ h9 => h9) rfl dX10_undo_16 ?_
      obtain ⟨hPc, hDc, hFc⟩ := zc_sub (wc := [(oc10 sl mc9 (.ref ea) (nI T))]) hP hD hS hA [1] rfl rfl
      refine zcall (st1 := [.int (nI T), .int (nI dn)]) (va_runV (As := []) (rest := [.int (nI dn)]) ⟨hx, hb, hml, hown, hts⟩ (k_AL_size l dC dI cI cZ cF s.heap.size sl ea T mc9 ) (csV_90 hts rfl rfl ⟨Nat.le_of_ble_eq_true rfl, Nat.le_of_ble_eq_true rfl⟩) (zPV2 (q0 := 0) (ci := 10) hPc hDc hK3 hXN rfl rfl) rfl rfl hl.1 rfl (lv_room (Nat.le_of_ble_eq_true rfl)) dX10_undo_19 ⟨Nat.le_of_ble_eq_true rfl, Nat.le_of_ble_eq_true rfl⟩) hS hFc hFc rfl (fun t H locs ht hB hk1 hS => ?_)
      obtain ⟨hP1, hD1⟩ := hB
      rw [ht] at hP1
      obtain ⟨hP, hD⟩ := zkQ (W2 := [(oc8 x (.ref sh) (.ref lw) (.ref ro) (.ref bq) (.ref bp) (.ref dq) (.ref dp) (.ref lv) (.ref sl) (nI dn) (nI bs) ul su), (oc10 sl mc9 (.ref ea) (nI T)), (oc7 sh (.ref fa) (nI ft)), (oq fa cF 200 FA), (oq ea cO cap5 SA), (oc11 (sp dn) (wh dn) (of9 dn) (we dn) .null ch5)]) hP hD [1] [0, 2, 3, 4, 5] [0, 2, 3, 4, 5] [1] [0, 5, 1, 2, 3, 4] 6 rfl rfl rfl rfl rfl rfl rfl rfl rfl hk1 hFc hP1 hD1
      clear hk1 hPc hDc hFc hP1 hD1 ht
      have b9_5 : T < 2147483648 := by omega
      refine lv_icmp_le (tgt := 32) hx hb dX10_undo_22 rfl (fun c_4 => ?_) (fun c_4 => ?_)
      · have c_4 : ((dn : Nat) : Int) ≤ ((T : Nat) : Int) := zc_le (nI_toInt b9_2) (nI_toInt b9_5) c_4
        refine lv_aload_n hx hb dX10_undo_32 rfl (lv_at hl 0 rfl) ?_
        refine va_get (D := (dC, dI)) (ci := 8) (v := .ref sl) (C := RX10) (T := TX10) (N := 13) hx hb hts inX10 hown hK hP 0 rfl rfl 8 (Nat.le_of_ble_eq_true rfl) (hts _ mw_317) (fun _ h9 => h9) rfl dX10_undo_33 ?_
        refine lv_aload_n hx hb dX10_undo_36 rfl (lv_at hl 0 rfl) ?_
        refine va_get (D := (dC, dI)) (ci := 8) (v := .int (nI dn)) (C := RX10) (T := TX10) (N := 13) hx hb hts inX10 hown hK hP 0 rfl rfl 9 (Nat.le_of_ble_eq_true rfl) (hts _ mw_318) (fun _ h9 => h9) rfl dX10_undo_37 ?_
        refine lv_iconst (v := 1) hx hb dX10_undo_40 rfl ?_
        refine lv_isub hx hb dX10_undo_41 ?_
        refine zz_i (v := nI (dn - 1)) (pk_sub (a := dn) (b := 1) (by omega)) ?_
        have hko : ∀ P : Nat → Prop, ¬ P 8001 → ¬ P 8002 → kpT P L f own T_1 f own := fun P h1 h2 => by rw [← hT_1]; exact kp_out (fun c hc => by simp only [List.mem_cons, List.not_mem_nil, or_false] at hc; rcases hc with rfl | rfl; (show ¬ P (own ea); rw [hce5.2.2]; exact h2); (show ¬ P (own (sp dn)); rw [hs2.2.2]; exact h1))
        obtain ⟨hPc, hDc, hFc⟩ := zc_sub (wc := [(oc10 sl mc9 (.ref ea) (nI T)), (oq ea cO cap5 SA)]) hP hD hS hA [1, 4] rfl rfl
        refine zcall (st1 := [.ref (sp dn)]) (va_runV (As := [.int (nI (dn - 1))]) (rest := []) ⟨hx, hb, hml, hown, hts⟩ (k_AL_get l dC dI cI cZ cF H.size cO e0 mi sl ea T mc9 (dn - 1) cap5 (sp dn) SA (hs1) (by first | with_reducible assumption | omega) (by first | with_reducible assumption | omega) (by first | with_reducible assumption | omega) (by first | with_reducible assumption | omega)) (csV_112 hts rfl rfl ⟨Nat.le_of_ble_eq_true rfl, Nat.le_of_ble_eq_true rfl⟩) (zPVL (q0 := 0) (ci := 10) hPc hDc hK hXL hS hFc rfl rfl) rfl rfl hl.1 rfl (lv_room (Nat.le_of_ble_eq_true rfl)) dX10_undo_42 ⟨Nat.le_of_ble_eq_true rfl, Nat.le_of_ble_eq_true rfl⟩) hS hFc hFc rfl (fun t H locs ht hB hk1 hS => ?_)
        obtain ⟨hP1, hD1⟩ := hB
        rw [ht] at hP1
        obtain ⟨hP, hD⟩ := zkQ (W2 := [(oc8 x (.ref sh) (.ref lw) (.ref ro) (.ref bq) (.ref bp) (.ref dq) (.ref dp) (.ref lv) (.ref sl) (nI dn) (nI bs) ul su), (oc10 sl mc9 (.ref ea) (nI T)), (oc7 sh (.ref fa) (nI ft)), (oq fa cF 200 FA), (oq ea cO cap5 SA), (oc11 (sp dn) (wh dn) (of9 dn) (we dn) .null ch5)]) hP hD [1, 4] [0, 2, 3, 5] [0, 2, 3, 5] [1, 4] [0, 4, 1, 2, 5, 3] 6 rfl rfl rfl rfl rfl rfl rfl rfl rfl hk1 hFc hP1 hD1
        clear hk1 hPc hDc hFc hP1 hD1 ht
        refine va_castE hx hb hown (hts _ mw_757) (z_cellR (i := 0) hK (hP 5 _ rfl) rfl) dX10_undo_45 ?_
        refine lv_astore_n (lv' := [(1, .ref (sp dn)), (0, .ref x)]) hx hb dX10_undo_48 rfl hl (Nat.le_of_ble_eq_true rfl) rfl (fun ls hl => ?_)
        refine lv_aload_n hx hb dX10_undo_49 rfl (lv_at hl 0 rfl) ?_
        obtain ⟨hPc, hDc, hFc⟩ := zc_part (cx := [(oc11 (sp dn) (wh dn) (of9 dn) (we dn) .null ch5)]) hP hD hS hA [5] rfl rfl
        refine zcall (st1 := []) (va_runV (As := []) (rest := []) ⟨hx, hb, hml, hown, hts⟩ (k_Step_takeBack l dC dI cI cZ cF H.size (sp dn) (wh dn) (of9 dn) (we dn) (.null) ch5 own fe cl (la dn) (la (dn - 1)) (la dn) (FT T) qs5 rk wd tw pa pb T_1 f (FeA_kp (hko (fun g => g ≠ 8001 ∧ g ≠ 8002) (by simp) (by simp)) (fun q hq => ⟨⟨by omega, by omega⟩, ⟨by omega, by omega⟩⟩) hG9.1) (chn_kp (hko (fun g => g ≠ 8001 ∧ g ≠ 8002) (by simp) (by simp)) ⟨by omega, by omega⟩ hch5) (fun q hq => Nat.lt_of_lt_of_le (hqs5 q hq) (hN9.2.2.2.1 _ (by first | with_reducible assumption | omega) (by first | with_reducible assumption | omega)))) (csV_113 hts rfl rfl ⟨Nat.le_of_ble_eq_true rfl, Nat.le_of_ble_eq_true rfl⟩) (zPV2 (q0 := 0) (ci := 11) hPc hDc hK3 hXN rfl rfl) rfl rfl hl.1 rfl (lv_room (Nat.le_of_ble_eq_true rfl)) dX10_undo_50 ⟨Nat.le_of_ble_eq_true rfl, Nat.le_of_ble_eq_true rfl⟩) hS hFc hFc rfl (fun t H locs ht hB hk1 hS => ?_)
        obtain ⟨L7, f7, nw7, hF7, hn7, hk7, hP1, hD1⟩ := hB
        rw [ht] at hP1
        obtain ⟨hP, hD⟩ := zkP (W2 := [(oc8 x (.ref sh) (.ref lw) (.ref ro) (.ref bq) (.ref bp) (.ref dq) (.ref dp) (.ref lv) (.ref sl) (nI dn) (nI bs) ul su), (oc10 sl mc9 (.ref ea) (nI T)), (oc7 sh (.ref fa) (nI ft)), (oq fa cF 200 FA), (oq ea cO cap5 SA), (oc11 (sp dn) (wh dn) (of9 dn) (we dn) .null ch5)]) hP hD [5] [0, 1, 2, 3, 4] [0, 1, 2, 3, 4] [5] [0, 1, 2, 3, 4, 5] 6 rfl rfl rfl rfl rfl rfl rfl rfl rfl hk1 hFc hP1 hD1
        clear hk1 hPc hDc hFc hP1 hD1 ht
        refine lv_aload_n hx hb dX10_undo_53 rfl (lv_at hl 0 rfl) ?_
        refine va_get (D := (dC, dI)) (ci := 11) (v := .null) (C := RX9) (T := TX9) (N := 5) hx hb hts inX9 hown hK hP 5 rfl rfl 3 (Nat.le_of_ble_eq_true rfl) (hts _ mw_770) (fun _ h9 => h9) rfl dX10_undo_54 ?_
        refine lv_ifnullN (tgt := 67) hx hb dX10_undo_57 rfl ?_
        refine lv_aload_n hx hb dX10_undo_67 rfl (lv_at hl 1 rfl) ?_
        refine lv_dup hx hb dX10_undo_68 rfl ?_
        refine va_get (D := (dC, dI)) (ci := 8) (v := .int (nI dn)) (C := RX10) (T := TX10) (N := 13) hx hb hts inX10 hown hK hP 0 rfl rfl 9 (Nat.le_of_ble_eq_true rfl) (hts _ mw_318) (fun _ h9 => h9) rfl dX10_undo_69 ?_
        refine lv_iconst (v := 1) hx hb dX10_undo_72 rfl ?_
        refine lv_isub hx hb dX10_undo_73 ?_
        refine zz_i (v := nI (dn - 1)) (pk_sub (a := dn) (b := 1) (by omega)) ?_
        refine va_put (D := (dC, dI)) (ci := 8) (v := .int (nI (dn - 1))) (ty := .int) (C := RX10) (T := TX10) (N := 13) hx hb hts inX10 tyX10 tyX10_ok nmX10 hown hK hP hD hS 0 rfl rfl 9 (by decide) (hts _ mw_318) (fun _ h9 => h9) rfl (by decide +kernel) rfl rfl (Nat.le_of_ble_eq_true rfl) dX10_undo_74 (fun H locs hP hD hS => ?_)
        obtain ⟨hP, hD⟩ : zPD (dC, dI) classes A ([(oc8 x (.ref sh) (.ref lw) (.ref ro) (.ref bq) (.ref bp) (.ref dq) (.ref dp) (.ref lv) (.ref sl) (nI (dn - 1)) (nI bs) ul su), (oc10 sl mc9 (.ref ea) (nI T)), (oc7 sh (.ref fa) (nI ft)), (oq fa cF 200 FA), (oq ea cO cap5 SA), (oc11 (sp dn) (wh dn) (of9 dn) (we dn) .null ch5)] ++ va_pl L7 f7) H := ⟨hP, hD⟩
        refine lv_aload_n hx hb dX10_undo_77 rfl (lv_at hl 1 rfl) ?_
        refine lv_iconst (v := 0) hx hb dX10_undo_78 rfl ?_
        refine va_put (D := (dC, dI)) (ci := 8) (v := .int 0) (ty := .int) (C := RX10) (T := TX10) (N := 13) hx hb hts inX10 tyX10 tyX10_ok nmX10 hown hK hP hD hS 0 rfl rfl 12 (by decide) (hts _ mw_321) (fun _ h9 => h9) rfl (by decide +kernel) rfl rfl (Nat.le_of_ble_eq_true rfl) dX10_undo_79 (fun H locs hP hD hS => ?_)
        obtain ⟨hP, hD⟩ : zPD (dC, dI) classes A ([(oc8 x (.ref sh) (.ref lw) (.ref ro) (.ref bq) (.ref bp) (.ref dq) (.ref dp) (.ref lv) (.ref sl) (nI (dn - 1)) (nI bs) ul 0), (oc10 sl mc9 (.ref ea) (nI T)), (oc7 sh (.ref fa) (nI ft)), (oq fa cF 200 FA), (oq ea cO cap5 SA), (oc11 (sp dn) (wh dn) (of9 dn) (we dn) .null ch5)] ++ va_pl L7 f7) H := ⟨hP, hD⟩
        refine lv_aload_n hx hb dX10_undo_82 rfl (lv_at hl 1 rfl) ?_
        refine va_get (D := (dC, dI)) (ci := 8) (v := .int (nI (dn - 1))) (C := RX10) (T := TX10) (N := 13) hx hb hts inX10 hown hK hP 0 rfl rfl 9 (Nat.le_of_ble_eq_true rfl) (hts _ mw_318) (fun _ h9 => h9) rfl dX10_undo_83 ?_
        refine lv_iconst (v := 1) hx hb dX10_undo_86 rfl ?_
        refine lv_iadd hx hb dX10_undo_87 ?_
        refine zz_i (v := nI ((dn - 1) + 1)) (nI_add (dn - 1) 1) ?_
        have hP : va_P (dC, dI) classes (([(oc8 x (.ref sh) (.ref lw) (.ref ro) (.ref bq) (.ref bp) (.ref dq) (.ref dp) (.ref lv) (.ref sl) (nI (dn - 1)) (nI bs) ul 0), (oc10 sl mc9 (.ref ea) (nI T)), (oc7 sh (.ref fa) (nI ft)), (oq fa cF 200 FA)] ++ [(oq ea cO cap5 SA), (oc11 (sp dn) (wh dn) (of9 dn) (we dn) .null ch5)]) ++ va_pl L7 f7) H := hP
        have hD : va_D A (([(oc8 x (.ref sh) (.ref lw) (.ref ro) (.ref bq) (.ref bp) (.ref dq) (.ref dp) (.ref lv) (.ref sl) (nI (dn - 1)) (nI bs) ul 0), (oc10 sl mc9 (.ref ea) (nI T)), (oc7 sh (.ref fa) (nI ft)), (oq fa cF 200 FA)] ++ [(oq ea cO cap5 SA), (oc11 (sp dn) (wh dn) (of9 dn) (we dn) .null ch5)]) ++ va_pl L7 f7) := hD
        obtain ⟨Lp2, fp2, hP, hD, hpin_2⟩ := pl_pin (cs := []) (old := []) (new := [(oq ea cO cap5 SA), (oc11 (sp dn) (wh dn) (of9 dn) (we dn) .null ch5)]) (cs1 := [(oq ea cO cap5 SA), (oc11 (sp dn) (wh dn) (of9 dn) (we dn) .null ch5)]) (X := [(oc8 x (.ref sh) (.ref lw) (.ref ro) (.ref bq) (.ref bp) (.ref dq) (.ref dp) (.ref lv) (.ref sl) (nI (dn - 1)) (nI bs) ul 0), (oc10 sl mc9 (.ref ea) (nI T)), (oc7 sh (.ref fa) (nI ft)), (oq fa cF 200 FA)]) (L := L7) (f := f7) rfl rfl (by rw [outPl_nil]; exact hP) (by rw [outPl_nil]; exact hD)
        obtain ⟨hfr_2, hkp_2, hce_2, hsx_2, hpw_2⟩ := id hpin_2
        have hk79 : kpT (fun g => ¬ g % 8 = 0) L f own Lp2 fp2 own := kp_re (cs := [(ea, .inl (cO, cap5, .inr (.inr (.inr (.inr SA))))), (sp dn, .inr (11, [.int (wh dn), .int (of9 dn), .int (we dn), .null, ch5]))]) (by rw [hT_1]; exact hk7) (hkp_2 own own _ (fun _ _ => rfl) trivial) (fun c hc g e h => by simp only [List.mem_cons, List.not_mem_nil, or_false] at hc; rcases hc with rfl | rfl; (obtain ⟨e1, e2⟩ := ce_eq h hce5; rw [e1, e2]; exact hce_2 own 0 _ _ _ rfl hce5.2.2); (obtain ⟨e1, e2⟩ := ce_eq h hs2; rw [e1, e2]; exact hce_2 own 1 _ _ _ rfl hs2.2.2))
        have hF79 : FeA cI Lp2 fp2 own (FT T) fe (la (dn - 1)) cl (fun _ => .null) rk wd tw pa pb := FeA_cg (FeA_kp (hkp_2 own own (fun _ => True) (fun _ _ => rfl) trivial) (fun _ _ => ⟨trivial, trivial⟩) hF7) (fun q hq => by by_cases m : q ∈ qs5; exact ((hn7 q).1 m).symm; rw [(hn7 q).2 m]; exact hql5 q hq m)
        have hB6 := U_pos (FA1 := FA) (ft1 := FT (dn - 1)) hF79 hk79 hG9 hH9 hft9 (by omega) (by omega) rfl (fun q hq => hFA9 q (by omega)) hc
        obtain ⟨hP9, hD9⟩ := zq_part (cx := [(oc8 x (.ref sh) (.ref lw) (.ref ro) (.ref bq) (.ref bp) (.ref dq) (.ref dp) (.ref lv) (.ref sl) (nI (dn - 1)) (nI bs) ul 0), (oc10 sl mc9 (.ref ea) (nI T)), (oc7 sh (.ref fa) (nI ft)), (oq fa cF 200 FA)]) hP hD [0, 1, 2, 3] rfl rfl
        have hE9 : (([(oc8 x (.ref sh) (.ref lw) (.ref ro) (.ref bq) (.ref bp) (.ref dq) (.ref dp) (.ref lv) (.ref sl) (nI (dn - 1)) (nI bs) ul 0), (oc10 sl mc9 (.ref ea) (nI T)), (oc7 sh (.ref fa) (nI ft)), (oq fa cF 200 FA)] ++ va_pl Lp2 fp2) : va_W) = ([(oc8 x (.ref sh) (.ref lw) (.ref ro) (.ref bq) (.ref bp) (.ref dq) (.ref dp) (.ref lv) (.ref sl) (nI (dn - 1)) (nI bs) ul 0), (oc10 sl mc9 (.ref ea) (nI T)), (oc7 sh (.ref fa) (nI (FT (dn - 1)))), (oq fa cF 200 FA)] ++ va_pl Lp2 fp2) := by rw [show ft = FT (dn - 1) by omega]
        rw [hE9] at hP9 hD9
        rw [hQ9]
        exact W.iret (v := nI ((dn - 1) + 1)) hx hb hr (fun t ht hW => ⟨⟨rfl, Lp2, fp2, FA, (hB6), by rw [ht]; exact hP9, hD9⟩, hS.F ht⟩) hS.2.2 dX10_undo_88
      · have c_4 : ((T : Nat) : Int) < ((dn : Nat) : Int) := zc_nle (nI_toInt b9_2) (nI_toInt b9_5) c_4
        exfalso; omega
  · skip
    subst hm5
    have hc9_1 : inPl L f [(oq ea cO cap5 SA), (oc11 (sp dn) (wh dn) (of9 dn) (we dn) (.ref (fe (FT (dn - 1)))) ch5)] := ⟨ce_pl hce5, ce_pl hs2, trivial⟩
    have hD0_1 := hD
    obtain ⟨hP, hD⟩ := pl_out hP hD [(oq ea cO cap5 SA), (oc11 (sp dn) (wh dn) (of9 dn) (we dn) (.ref (fe (FT (dn - 1)))) ch5)] hc9_1 (pw2 (ca_ne hs2.2.1 hce5.2.1).symm)
    generalize hT_1 : outPl L [(oq ea cO cap5 SA), (oc11 (sp dn) (wh dn) (of9 dn) (we dn) (.ref (fe (FT (dn - 1)))) ch5)] = T_1 at hP hD
    obtain ⟨hP, hD⟩ : zPD (dC, dI) classes A ([(oc8 x (.ref sh) (.ref lw) (.ref ro) (.ref bq) (.ref bp) (.ref dq) (.ref dp) (.ref lv) (.ref sl) (nI dn) (nI bs) ul su), (oc10 sl mc9 (.ref ea) (nI T)), (oc7 sh (.ref fa) (nI ft)), (oq fa cF 200 FA), (oq ea cO cap5 SA), (oc11 (sp dn) (wh dn) (of9 dn) (we dn) (.ref (fe (FT (dn - 1)))) ch5)] ++ va_pl T_1 f) s.heap := ⟨hP, hD⟩
    refine lv_aload_n hx hb dX10_undo_0 rfl (lv_at hl 0 rfl) ?_
    refine va_get (D := (dC, dI)) (ci := 8) (v := .int (nI dn)) (C := RX10) (T := TX10) (N := 13) hx hb hts inX10 hown hK hP 0 rfl rfl 9 (Nat.le_of_ble_eq_true rfl) (hts _ mw_318) (fun _ h9 => h9) rfl dX10_undo_1 ?_
    refine lv_aload_n hx hb dX10_undo_4 rfl (lv_at hl 0 rfl) ?_
    refine va_get (D := (dC, dI)) (ci := 8) (v := .int (nI bs)) (C := RX10) (T := TX10) (N := 13) hx hb hts inX10 hown hK hP 0 rfl rfl 10 (Nat.le_of_ble_eq_true rfl) (hts _ mw_319) (fun _ h9 => h9) rfl dX10_undo_5 ?_
    have b9_7 : dn < 2147483648 := by omega
    have b9_8 : bs < 2147483648 := by omega
    refine lv_icmp_le (tgt := 25) hx hb dX10_undo_8 rfl (fun c_6 => ?_) (fun c_6 => ?_)
    · have c_6 : ((dn : Nat) : Int) ≤ ((bs : Nat) : Int) := zc_le (nI_toInt b9_7) (nI_toInt b9_8) c_6
      exfalso; omega
    · have c_6 : ((bs : Nat) : Int) < ((dn : Nat) : Int) := zc_nle (nI_toInt b9_7) (nI_toInt b9_8) c_6
      refine lv_aload_n hx hb dX10_undo_11 rfl (lv_at hl 0 rfl) ?_
      refine va_get (D := (dC, dI)) (ci := 8) (v := .int (nI dn)) (C := RX10) (T := TX10) (N := 13) hx hb hts inX10 hown hK hP 0 rfl rfl 9 (Nat.le_of_ble_eq_true rfl) (hts _ mw_318) (fun _ h9 => h9) rfl dX10_undo_12 ?_
      refine lv_aload_n hx hb dX10_undo_15 rfl (lv_at hl 0 rfl) ?_
      refine va_get (D := (dC, dI)) (ci := 8) (v := .ref sl) (C := RX10) (T := TX10) (N := 13) hx hb hts inX10 hown hK hP 0 rfl rfl 8 (Nat.le_of_ble_eq_true rfl) (hts _ mw_317) (fun _ h9 => h9) rfl dX10_undo_16 ?_
      obtain ⟨hPc, hDc, hFc⟩ := zc_sub (wc := [(oc10 sl mc9 (.ref ea) (nI T))]) hP hD hS hA [1] rfl rfl
      refine zcall (st1 := [.int (nI T), .int (nI dn)]) (va_runV (As := []) (rest := [.int (nI dn)]) ⟨hx, hb, hml, hown, hts⟩ (k_AL_size l dC dI cI cZ cF s.heap.size sl ea T mc9 ) (csV_90 hts rfl rfl ⟨Nat.le_of_ble_eq_true rfl, Nat.le_of_ble_eq_true rfl⟩) (zPV2 (q0 := 0) (ci := 10) hPc hDc hK3 hXN rfl rfl) rfl rfl hl.1 rfl (lv_room (Nat.le_of_ble_eq_true rfl)) dX10_undo_19 ⟨Nat.le_of_ble_eq_true rfl, Nat.le_of_ble_eq_true rfl⟩) hS hFc hFc rfl (fun t H locs ht hB hk1 hS => ?_)
      obtain ⟨hP1, hD1⟩ := hB
      rw [ht] at hP1
      obtain ⟨hP, hD⟩ := zkQ (W2 := [(oc8 x (.ref sh) (.ref lw) (.ref ro) (.ref bq) (.ref bp) (.ref dq) (.ref dp) (.ref lv) (.ref sl) (nI dn) (nI bs) ul su), (oc10 sl mc9 (.ref ea) (nI T)), (oc7 sh (.ref fa) (nI ft)), (oq fa cF 200 FA), (oq ea cO cap5 SA), (oc11 (sp dn) (wh dn) (of9 dn) (we dn) (.ref (fe (FT (dn - 1)))) ch5)]) hP hD [1] [0, 2, 3, 4, 5] [0, 2, 3, 4, 5] [1] [0, 5, 1, 2, 3, 4] 6 rfl rfl rfl rfl rfl rfl rfl rfl rfl hk1 hFc hP1 hD1
      clear hk1 hPc hDc hFc hP1 hD1 ht
      have b9_10 : T < 2147483648 := by omega
      refine lv_icmp_le (tgt := 32) hx hb dX10_undo_22 rfl (fun c_9 => ?_) (fun c_9 => ?_)
      · have c_9 : ((dn : Nat) : Int) ≤ ((T : Nat) : Int) := zc_le (nI_toInt b9_7) (nI_toInt b9_10) c_9
        refine lv_aload_n hx hb dX10_undo_32 rfl (lv_at hl 0 rfl) ?_
        refine va_get (D := (dC, dI)) (ci := 8) (v := .ref sl) (C := RX10) (T := TX10) (N := 13) hx hb hts inX10 hown hK hP 0 rfl rfl 8 (Nat.le_of_ble_eq_true rfl) (hts _ mw_317) (fun _ h9 => h9) rfl dX10_undo_33 ?_
        refine lv_aload_n hx hb dX10_undo_36 rfl (lv_at hl 0 rfl) ?_
        refine va_get (D := (dC, dI)) (ci := 8) (v := .int (nI dn)) (C := RX10) (T := TX10) (N := 13) hx hb hts inX10 hown hK hP 0 rfl rfl 9 (Nat.le_of_ble_eq_true rfl) (hts _ mw_318) (fun _ h9 => h9) rfl dX10_undo_37 ?_
        refine lv_iconst (v := 1) hx hb dX10_undo_40 rfl ?_
        refine lv_isub hx hb dX10_undo_41 ?_
        refine zz_i (v := nI (dn - 1)) (pk_sub (a := dn) (b := 1) (by omega)) ?_
        have hko : ∀ P : Nat → Prop, ¬ P 8001 → ¬ P 8002 → kpT P L f own T_1 f own := fun P h1 h2 => by rw [← hT_1]; exact kp_out (fun c hc => by simp only [List.mem_cons, List.not_mem_nil, or_false] at hc; rcases hc with rfl | rfl; (show ¬ P (own ea); rw [hce5.2.2]; exact h2); (show ¬ P (own (sp dn)); rw [hs2.2.2]; exact h1))
        obtain ⟨hPc, hDc, hFc⟩ := zc_sub (wc := [(oc10 sl mc9 (.ref ea) (nI T)), (oq ea cO cap5 SA)]) hP hD hS hA [1, 4] rfl rfl
        refine zcall (st1 := [.ref (sp dn)]) (va_runV (As := [.int (nI (dn - 1))]) (rest := []) ⟨hx, hb, hml, hown, hts⟩ (k_AL_get l dC dI cI cZ cF H.size cO e0 mi sl ea T mc9 (dn - 1) cap5 (sp dn) SA (hs1) (by first | with_reducible assumption | omega) (by first | with_reducible assumption | omega) (by first | with_reducible assumption | omega) (by first | with_reducible assumption | omega)) (csV_112 hts rfl rfl ⟨Nat.le_of_ble_eq_true rfl, Nat.le_of_ble_eq_true rfl⟩) (zPVL (q0 := 0) (ci := 10) hPc hDc hK hXL hS hFc rfl rfl) rfl rfl hl.1 rfl (lv_room (Nat.le_of_ble_eq_true rfl)) dX10_undo_42 ⟨Nat.le_of_ble_eq_true rfl, Nat.le_of_ble_eq_true rfl⟩) hS hFc hFc rfl (fun t H locs ht hB hk1 hS => ?_)
        obtain ⟨hP1, hD1⟩ := hB
        rw [ht] at hP1
        obtain ⟨hP, hD⟩ := zkQ (W2 := [(oc8 x (.ref sh) (.ref lw) (.ref ro) (.ref bq) (.ref bp) (.ref dq) (.ref dp) (.ref lv) (.ref sl) (nI dn) (nI bs) ul su), (oc10 sl mc9 (.ref ea) (nI T)), (oc7 sh (.ref fa) (nI ft)), (oq fa cF 200 FA), (oq ea cO cap5 SA), (oc11 (sp dn) (wh dn) (of9 dn) (we dn) (.ref (fe (FT (dn - 1)))) ch5)]) hP hD [1, 4] [0, 2, 3, 5] [0, 2, 3, 5] [1, 4] [0, 4, 1, 2, 5, 3] 6 rfl rfl rfl rfl rfl rfl rfl rfl rfl hk1 hFc hP1 hD1
        clear hk1 hPc hDc hFc hP1 hD1 ht
        refine va_castE hx hb hown (hts _ mw_757) (z_cellR (i := 0) hK (hP 5 _ rfl) rfl) dX10_undo_45 ?_
        refine lv_astore_n (lv' := [(1, .ref (sp dn)), (0, .ref x)]) hx hb dX10_undo_48 rfl hl (Nat.le_of_ble_eq_true rfl) rfl (fun ls hl => ?_)
        refine lv_aload_n hx hb dX10_undo_49 rfl (lv_at hl 0 rfl) ?_
        obtain ⟨hPc, hDc, hFc⟩ := zc_part (cx := [(oc11 (sp dn) (wh dn) (of9 dn) (we dn) (.ref (fe (FT (dn - 1)))) ch5)]) hP hD hS hA [5] rfl rfl
        refine zcall (st1 := []) (va_runV (As := []) (rest := []) ⟨hx, hb, hml, hown, hts⟩ (k_Step_takeBack l dC dI cI cZ cF H.size (sp dn) (wh dn) (of9 dn) (we dn) (.ref (fe (FT (dn - 1)))) ch5 own fe cl (la dn) (la (dn - 1)) (la dn) (FT T) qs5 rk wd tw pa pb T_1 f (FeA_kp (hko (fun g => g ≠ 8001 ∧ g ≠ 8002) (by simp) (by simp)) (fun q hq => ⟨⟨by omega, by omega⟩, ⟨by omega, by omega⟩⟩) hG9.1) (chn_kp (hko (fun g => g ≠ 8001 ∧ g ≠ 8002) (by simp) (by simp)) ⟨by omega, by omega⟩ hch5) (fun q hq => Nat.lt_of_lt_of_le (hqs5 q hq) (hN9.2.2.2.1 _ (by first | with_reducible assumption | omega) (by first | with_reducible assumption | omega)))) (csV_113 hts rfl rfl ⟨Nat.le_of_ble_eq_true rfl, Nat.le_of_ble_eq_true rfl⟩) (zPV2 (q0 := 0) (ci := 11) hPc hDc hK3 hXN rfl rfl) rfl rfl hl.1 rfl (lv_room (Nat.le_of_ble_eq_true rfl)) dX10_undo_50 ⟨Nat.le_of_ble_eq_true rfl, Nat.le_of_ble_eq_true rfl⟩) hS hFc hFc rfl (fun t H locs ht hB hk1 hS => ?_)
        obtain ⟨L7, f7, nw7, hF7, hn7, hk7, hP1, hD1⟩ := hB
        rw [ht] at hP1
        obtain ⟨hP, hD⟩ := zkP (W2 := [(oc8 x (.ref sh) (.ref lw) (.ref ro) (.ref bq) (.ref bp) (.ref dq) (.ref dp) (.ref lv) (.ref sl) (nI dn) (nI bs) ul su), (oc10 sl mc9 (.ref ea) (nI T)), (oc7 sh (.ref fa) (nI ft)), (oq fa cF 200 FA), (oq ea cO cap5 SA), (oc11 (sp dn) (wh dn) (of9 dn) (we dn) (.ref (fe (FT (dn - 1)))) ch5)]) hP hD [5] [0, 1, 2, 3, 4] [0, 1, 2, 3, 4] [5] [0, 1, 2, 3, 4, 5] 6 rfl rfl rfl rfl rfl rfl rfl rfl rfl hk1 hFc hP1 hD1
        clear hk1 hPc hDc hFc hP1 hD1 ht
        refine lv_aload_n hx hb dX10_undo_53 rfl (lv_at hl 0 rfl) ?_
        refine va_get (D := (dC, dI)) (ci := 11) (v := .ref (fe (FT (dn - 1)))) (C := RX9) (T := TX9) (N := 5) hx hb hts inX9 hown hK hP 5 rfl rfl 3 (Nat.le_of_ble_eq_true rfl) (hts _ mw_770) (fun _ h9 => h9) rfl dX10_undo_54 ?_
        refine lv_ifnull hx hb dX10_undo_57 ?_
        refine lv_aload_n hx hb dX10_undo_60 rfl (lv_at hl 1 rfl) ?_
        refine va_get (D := (dC, dI)) (ci := 8) (v := .ref sh) (C := RX10) (T := TX10) (N := 13) hx hb hts inX10 hown hK hP 0 rfl rfl 0 (Nat.le_of_ble_eq_true rfl) (hts _ mw_309) (fun _ h9 => h9) rfl dX10_undo_61 ?_
        obtain ⟨hPc, hDc, hFc⟩ := zc_sub (wc := [(oc7 sh (.ref fa) (nI ft)), (oq fa cF 200 FA)]) hP hD hS hA [2, 3] rfl rfl
        refine zcall (st1 := []) (va_runV (As := []) (rest := []) ⟨hx, hb, hml, hown, hts⟩ (k_Sheet_removeLast l dC dI cI cZ cF H.size sh fa ft FA (by first | with_reducible assumption | omega) (by first | with_reducible assumption | omega)) (csV_114 hts rfl rfl ⟨Nat.le_of_ble_eq_true rfl, Nat.le_of_ble_eq_true rfl⟩) (zPV2 (q0 := 0) (ci := 7) hPc hDc hK3 hXN rfl rfl) rfl rfl hl.1 rfl (lv_room (Nat.le_of_ble_eq_true rfl)) dX10_undo_64 ⟨Nat.le_of_ble_eq_true rfl, Nat.le_of_ble_eq_true rfl⟩) hS hFc hFc rfl (fun t H locs ht hB hk1 hS => ?_)
        obtain ⟨hP1, hD1⟩ := hB
        rw [ht] at hP1
        obtain ⟨hP, hD⟩ := zkQ (W2 := [(oc8 x (.ref sh) (.ref lw) (.ref ro) (.ref bq) (.ref bp) (.ref dq) (.ref dp) (.ref lv) (.ref sl) (nI dn) (nI bs) ul su), (oc10 sl mc9 (.ref ea) (nI T)), (oc7 sh (.ref fa) (nI (ft - 1))), (oq fa cF 200 FA), (oq ea cO cap5 SA), (oc11 (sp dn) (wh dn) (of9 dn) (we dn) (.ref (fe (FT (dn - 1)))) ch5)]) hP hD [2, 3] [0, 1, 4, 5] [0, 1, 4, 5] [2, 3] [0, 1, 4, 5, 2, 3] 6 rfl rfl rfl rfl rfl rfl rfl rfl rfl hk1 hFc hP1 hD1
        clear hk1 hPc hDc hFc hP1 hD1 ht
        refine lv_aload_n hx hb dX10_undo_67 rfl (lv_at hl 1 rfl) ?_
        refine lv_dup hx hb dX10_undo_68 rfl ?_
        refine va_get (D := (dC, dI)) (ci := 8) (v := .int (nI dn)) (C := RX10) (T := TX10) (N := 13) hx hb hts inX10 hown hK hP 0 rfl rfl 9 (Nat.le_of_ble_eq_true rfl) (hts _ mw_318) (fun _ h9 => h9) rfl dX10_undo_69 ?_
        refine lv_iconst (v := 1) hx hb dX10_undo_72 rfl ?_
        refine lv_isub hx hb dX10_undo_73 ?_
        refine zz_i (v := nI (dn - 1)) (pk_sub (a := dn) (b := 1) (by omega)) ?_
        refine va_put (D := (dC, dI)) (ci := 8) (v := .int (nI (dn - 1))) (ty := .int) (C := RX10) (T := TX10) (N := 13) hx hb hts inX10 tyX10 tyX10_ok nmX10 hown hK hP hD hS 0 rfl rfl 9 (by decide) (hts _ mw_318) (fun _ h9 => h9) rfl (by decide +kernel) rfl rfl (Nat.le_of_ble_eq_true rfl) dX10_undo_74 (fun H locs hP hD hS => ?_)
        obtain ⟨hP, hD⟩ : zPD (dC, dI) classes A ([(oc8 x (.ref sh) (.ref lw) (.ref ro) (.ref bq) (.ref bp) (.ref dq) (.ref dp) (.ref lv) (.ref sl) (nI (dn - 1)) (nI bs) ul su), (oc10 sl mc9 (.ref ea) (nI T)), (oc7 sh (.ref fa) (nI (ft - 1))), (oq fa cF 200 FA), (oq ea cO cap5 SA), (oc11 (sp dn) (wh dn) (of9 dn) (we dn) (.ref (fe (FT (dn - 1)))) ch5)] ++ va_pl L7 f7) H := ⟨hP, hD⟩
        refine lv_aload_n hx hb dX10_undo_77 rfl (lv_at hl 1 rfl) ?_
        refine lv_iconst (v := 0) hx hb dX10_undo_78 rfl ?_
        refine va_put (D := (dC, dI)) (ci := 8) (v := .int 0) (ty := .int) (C := RX10) (T := TX10) (N := 13) hx hb hts inX10 tyX10 tyX10_ok nmX10 hown hK hP hD hS 0 rfl rfl 12 (by decide) (hts _ mw_321) (fun _ h9 => h9) rfl (by decide +kernel) rfl rfl (Nat.le_of_ble_eq_true rfl) dX10_undo_79 (fun H locs hP hD hS => ?_)
        obtain ⟨hP, hD⟩ : zPD (dC, dI) classes A ([(oc8 x (.ref sh) (.ref lw) (.ref ro) (.ref bq) (.ref bp) (.ref dq) (.ref dp) (.ref lv) (.ref sl) (nI (dn - 1)) (nI bs) ul 0), (oc10 sl mc9 (.ref ea) (nI T)), (oc7 sh (.ref fa) (nI (ft - 1))), (oq fa cF 200 FA), (oq ea cO cap5 SA), (oc11 (sp dn) (wh dn) (of9 dn) (we dn) (.ref (fe (FT (dn - 1)))) ch5)] ++ va_pl L7 f7) H := ⟨hP, hD⟩
        refine lv_aload_n hx hb dX10_undo_82 rfl (lv_at hl 1 rfl) ?_
        refine va_get (D := (dC, dI)) (ci := 8) (v := .int (nI (dn - 1))) (C := RX10) (T := TX10) (N := 13) hx hb hts inX10 hown hK hP 0 rfl rfl 9 (Nat.le_of_ble_eq_true rfl) (hts _ mw_318) (fun _ h9 => h9) rfl dX10_undo_83 ?_
        refine lv_iconst (v := 1) hx hb dX10_undo_86 rfl ?_
        refine lv_iadd hx hb dX10_undo_87 ?_
        refine zz_i (v := nI ((dn - 1) + 1)) (nI_add (dn - 1) 1) ?_
        have hP : va_P (dC, dI) classes (([(oc8 x (.ref sh) (.ref lw) (.ref ro) (.ref bq) (.ref bp) (.ref dq) (.ref dp) (.ref lv) (.ref sl) (nI (dn - 1)) (nI bs) ul 0), (oc10 sl mc9 (.ref ea) (nI T)), (oc7 sh (.ref fa) (nI (ft - 1))), (oq fa cF 200 FA)] ++ [(oq ea cO cap5 SA), (oc11 (sp dn) (wh dn) (of9 dn) (we dn) (.ref (fe (FT (dn - 1)))) ch5)]) ++ va_pl L7 f7) H := hP
        have hD : va_D A (([(oc8 x (.ref sh) (.ref lw) (.ref ro) (.ref bq) (.ref bp) (.ref dq) (.ref dp) (.ref lv) (.ref sl) (nI (dn - 1)) (nI bs) ul 0), (oc10 sl mc9 (.ref ea) (nI T)), (oc7 sh (.ref fa) (nI (ft - 1))), (oq fa cF 200 FA)] ++ [(oq ea cO cap5 SA), (oc11 (sp dn) (wh dn) (of9 dn) (we dn) (.ref (fe (FT (dn - 1)))) ch5)]) ++ va_pl L7 f7) := hD
        obtain ⟨Lp2, fp2, hP, hD, hpin_2⟩ := pl_pin (cs := []) (old := []) (new := [(oq ea cO cap5 SA), (oc11 (sp dn) (wh dn) (of9 dn) (we dn) (.ref (fe (FT (dn - 1)))) ch5)]) (cs1 := [(oq ea cO cap5 SA), (oc11 (sp dn) (wh dn) (of9 dn) (we dn) (.ref (fe (FT (dn - 1)))) ch5)]) (X := [(oc8 x (.ref sh) (.ref lw) (.ref ro) (.ref bq) (.ref bp) (.ref dq) (.ref dp) (.ref lv) (.ref sl) (nI (dn - 1)) (nI bs) ul 0), (oc10 sl mc9 (.ref ea) (nI T)), (oc7 sh (.ref fa) (nI (ft - 1))), (oq fa cF 200 FA)]) (L := L7) (f := f7) rfl rfl (by rw [outPl_nil]; exact hP) (by rw [outPl_nil]; exact hD)
        obtain ⟨hfr_2, hkp_2, hce_2, hsx_2, hpw_2⟩ := id hpin_2
        have hk79 : kpT (fun g => ¬ g % 8 = 0) L f own Lp2 fp2 own := kp_re (cs := [(ea, .inl (cO, cap5, .inr (.inr (.inr (.inr SA))))), (sp dn, .inr (11, [.int (wh dn), .int (of9 dn), .int (we dn), .ref (fe (FT (dn - 1))), ch5]))]) (by rw [hT_1]; exact hk7) (hkp_2 own own _ (fun _ _ => rfl) trivial) (fun c hc g e h => by simp only [List.mem_cons, List.not_mem_nil, or_false] at hc; rcases hc with rfl | rfl; (obtain ⟨e1, e2⟩ := ce_eq h hce5; rw [e1, e2]; exact hce_2 own 0 _ _ _ rfl hce5.2.2); (obtain ⟨e1, e2⟩ := ce_eq h hs2; rw [e1, e2]; exact hce_2 own 1 _ _ _ rfl hs2.2.2))
        have hF79 : FeA cI Lp2 fp2 own (FT T) fe (la (dn - 1)) cl (fun _ => .null) rk wd tw pa pb := FeA_cg (FeA_kp (hkp_2 own own (fun _ => True) (fun _ _ => rfl) trivial) (fun _ _ => ⟨trivial, trivial⟩) hF7) (fun q hq => by by_cases m : q ∈ qs5; exact ((hn7 q).1 m).symm; rw [(hn7 q).2 m]; exact hql5 q hq m)
        have hB6 := U_pos (FA1 := FA) (ft1 := FT (dn - 1)) hF79 hk79 hG9 hH9 hft9 (by omega) (by omega) rfl (fun q hq => hFA9 q (by omega)) hc
        obtain ⟨hP9, hD9⟩ := zq_part (cx := [(oc8 x (.ref sh) (.ref lw) (.ref ro) (.ref bq) (.ref bp) (.ref dq) (.ref dp) (.ref lv) (.ref sl) (nI (dn - 1)) (nI bs) ul 0), (oc10 sl mc9 (.ref ea) (nI T)), (oc7 sh (.ref fa) (nI (ft - 1))), (oq fa cF 200 FA)]) hP hD [0, 1, 2, 3] rfl rfl
        have hE9 : (([(oc8 x (.ref sh) (.ref lw) (.ref ro) (.ref bq) (.ref bp) (.ref dq) (.ref dp) (.ref lv) (.ref sl) (nI (dn - 1)) (nI bs) ul 0), (oc10 sl mc9 (.ref ea) (nI T)), (oc7 sh (.ref fa) (nI (ft - 1))), (oq fa cF 200 FA)] ++ va_pl Lp2 fp2) : va_W) = ([(oc8 x (.ref sh) (.ref lw) (.ref ro) (.ref bq) (.ref bp) (.ref dq) (.ref dp) (.ref lv) (.ref sl) (nI (dn - 1)) (nI bs) ul 0), (oc10 sl mc9 (.ref ea) (nI T)), (oc7 sh (.ref fa) (nI (FT (dn - 1)))), (oq fa cF 200 FA)] ++ va_pl Lp2 fp2) := by rw [show ft - 1 = FT (dn - 1) by omega]
        rw [hE9] at hP9 hD9
        rw [hQ9]
        exact W.iret (v := nI ((dn - 1) + 1)) hx hb hr (fun t ht hW => ⟨⟨rfl, Lp2, fp2, FA, (hB6), by rw [ht]; exact hP9, hD9⟩, hS.F ht⟩) hS.2.2 dX10_undo_88
      · have c_9 : ((T : Nat) : Int) < ((dn : Nat) : Int) := zc_nle (nI_toInt b9_7) (nI_toInt b9_10) c_9
        exfalso; omega
set_option maxHeartbeats 4000000 in
set_option maxRecDepth 100000 in
theorem k_redo_y (l : Launch) (dC : Nat → ClassId) (dI : Nat → Nat → Nat) (cI cZ cF : ClassId) (sz : Nat) (cO : ClassId) (e0 : Nat) (mi : Nat) (x : Nat) (sh : Nat) (lw : Nat) (ro : Nat) (bq : Nat) (bp : Nat) (dq : Nat) (dp : Nat) (lv : Nat) (sl : Nat) (ul : Int32) (su : Int32) (ea : Nat) (mc9 : Int32) (fa : Nat) (FA : Nat → Option Nat) (bs : Nat) (dn : Nat) (T : Nat) (ft : Nat) (FT : Nat → Nat) (V : Nat → Nat → Nat → Int32) (VX : Nat → Nat → Int32) (VY : Nat → Nat → Int32) (tn : Nat → Int32) (rk : Nat → Int32) (wd : Nat → Int32) (tw : Nat → Int32) (pa : Nat → Int32) (pb : Nat → Int32) (wh : Nat → Int32) (of9 : Nat → Int32) (we : Nat → Int32) (kd : Nat → Int32) (st : Nat → Int32) (gb : Nat → Int32) (it : Nat → Int32) (mn : Nat → Int32) (cx : Nat → Int32) (cy : Nat → Int32) (L : List Nat) (f : Nat → va_E) (kd1 : Nat → Int32) (st1 : Nat → Int32) (gb1 : Nat → Int32) (it1 : Nat → Int32) (mn1 : Nat → Int32) (cx1 : Nat → Int32) (cy1 : Nat → Int32) (hB : shB cI cO L f e0 FA ea bs dn T ft FT V VX VY tn rk wd tw pa pb wh of9 we kd st gb it mn cx cy) (hlt : dn < T) (hd5 : dn + 1 ≤ 512) (hc : ∀ q, q < FT (dn + 1) → kd1 q = V (dn + 1) 0 q ∧ st1 q = V (dn + 1) 1 q ∧ gb1 q = V (dn + 1) 2 q ∧ it1 q = V (dn + 1) 3 q ∧ ((¬ (V (dn + 1) 1 q).toInt = 0 ∧ (tn q).toInt = 0) → nN (mn1 q) = nN (V (dn + 1) 4 q) ∧ ∀ k, k < nN (V (dn + 1) 4 q) → cF40 cx1 q k = cF40 (VX (dn + 1)) q k ∧ cF40 cy1 q k = cF40 (VY (dn + 1)) q k) ∧ ((V (dn + 1) 1 q).toInt = 0 → mn1 q = mn q ∧ ∀ k, k < 40 → cF40 cx1 q k = cF40 cx q k ∧ cF40 cy1 q k = cF40 cy q k)) : Met l yX10_redo (.code yX10_redo cX10_redo 2 (some .int) :: ws0) ({ frames := 3, cells := 0, slots := 0, locals := 64 } : Room) (va_Pc [.ref x] (zPre (dC, dI) classes (zTyO cI cZ cF cO) ([(oc8 x (.ref sh) (.ref lw) (.ref ro) (.ref bq) (.ref bp) (.ref dq) (.ref dp) (.ref lv) (.ref sl) (nI dn) (nI bs) ul su), (oc10 sl mc9 (.ref ea) (nI T)), (oc7 sh (.ref fa) (nI ft)), (oq fa cF 200 FA)] ++ va_pl L f) sz (zXL e0 mi (va_A ([(oc8 x (.ref sh) (.ref lw) (.ref ro) (.ref bq) (.ref bp) (.ref dq) (.ref dp) (.ref lv) (.ref sl) (nI dn) (nI bs) ul su), (oc10 sl mc9 (.ref ea) (nI T)), (oc7 sh (.ref fa) (nI ft)), (oq fa cF 200 FA)] ++ va_pl L f) sz)))) (zQ (some (.int (nI (dn + 1)))) (fun t => ∃ (L1 : List Nat), ∃ (f1 : Nat → va_E), ∃ (FA1 : Nat → Option Nat), (shB cI cO L1 f1 e0 FA1 ea bs (dn + 1) T (FT (dn + 1)) FT V VX VY tn rk wd tw pa pb wh of9 we kd1 st1 gb1 it1 mn1 cx1 cy1) ∧ va_P (dC, dI) classes ([(oc8 x (.ref sh) (.ref lw) (.ref ro) (.ref bq) (.ref bp) (.ref dq) (.ref dp) (.ref lv) (.ref sl) (nI (dn + 1)) (nI bs) ul 0), (oc10 sl mc9 (.ref ea) (nI T)), (oc7 sh (.ref fa) (nI (FT (dn + 1)))), (oq fa cF 200 FA1)] ++ va_pl L1 f1) t.heap ∧ va_D (va_A ([(oc8 x (.ref sh) (.ref lw) (.ref ro) (.ref bq) (.ref bp) (.ref dq) (.ref dp) (.ref lv) (.ref sl) (nI dn) (nI bs) ul su), (oc10 sl mc9 (.ref ea) (nI T)), (oc7 sh (.ref fa) (nI ft)), (oq fa cF 200 FA)] ++ va_pl L f) sz) ([(oc8 x (.ref sh) (.ref lw) (.ref ro) (.ref bq) (.ref bp) (.ref dq) (.ref dp) (.ref lv) (.ref sl) (nI (dn + 1)) (nI bs) ul 0), (oc10 sl mc9 (.ref ea) (nI T)), (oc7 sh (.ref fa) (nI (FT (dn + 1)))), (oq fa cF 200 FA1)] ++ va_pl L1 f1)) (va_A ([(oc8 x (.ref sh) (.ref lw) (.ref ro) (.ref bq) (.ref bp) (.ref dq) (.ref dp) (.ref lv) (.ref sl) (nI dn) (nI bs) ul su), (oc10 sl mc9 (.ref ea) (nI T)), (oc7 sh (.ref fa) (nI ft)), (oq fa cF 200 FA)] ++ va_pl L f) sz)) 0 0 (va_A ([(oc8 x (.ref sh) (.ref lw) (.ref ro) (.ref bq) (.ref bp) (.ref dq) (.ref dp) (.ref lv) (.ref sl) (nI dn) (nI bs) ul su), (oc10 sl mc9 (.ref ea) (nI T)), (oc7 sh (.ref fa) (nI ft)), (oq fa cF 200 FA)] ++ va_pl L f) sz) := by
  refine Met.ofW (cc := cX10_redo) (maxL := 2) (ret := (some .int)) rfl rfl ?_
  intro p e s m args below meth c s₁ B hml hv
  obtain ⟨rfl, hsz, hP, hK, hD0, hXL⟩ := hv
  have hx := B.exec
  have hb := B.bytes
  have hr := B.returns
  have hts0 := atoms_spec (ws := .code yX10_redo cX10_redo 2 (some .int) :: ws0) B.pre
  have hts : ∀ w9 ∈ ws0, w9.before ([.ref x] : List Value).toArray s = true := fun w9 h => hts0 w9 (List.mem_cons_of_mem _ h)
  have hown : s.vm.findClass "ScaleShop" = some m.cls := findClass_of_methodNamed B.named
  have hlocks := B.notSynchronized
  subst hsz
  have hD := hD0.self (sz := s.heap.size)
  clear hD0
  generalize hAe : va_A ([(oc8 x (.ref sh) (.ref lw) (.ref ro) (.ref bq) (.ref bp) (.ref dq) (.ref dp) (.ref lv) (.ref sl) (nI dn) (nI bs) ul su), (oc10 sl mc9 (.ref ea) (nI T)), (oc7 sh (.ref fa) (nI ft)), (oq fa cF 200 FA)] ++ va_pl L f) s.heap.size = A at hD hXL ⊢
  have hA : ∀ q : Nat, s.heap.size ≤ q → A q := fun q h => by rw [← hAe]; exact Or.inr h
  clear hAe
  have hS : va_S A s.heap s.heap [] := va_S.rf
  have hXN := hXL.1
  have hK3 := hK.sub [0, 1, 2] rfl
  have hP : va_P (dC, dI) classes ([(oc8 x (.ref sh) (.ref lw) (.ref ro) (.ref bq) (.ref bp) (.ref dq) (.ref dp) (.ref lv) (.ref sl) (nI dn) (nI bs) ul su), (oc10 sl mc9 (.ref ea) (nI T)), (oc7 sh (.ref fa) (nI ft)), (oq fa cF 200 FA)] ++ va_pl L f) s.heap := hP
  obtain ⟨Q9, hQ9⟩ : ∃ Q9 : State → Prop, Q9 = MQ below (zQ (some (.int (nI (dn + 1)))) (fun t => ∃ (L1 : List Nat), ∃ (f1 : Nat → va_E), ∃ (FA1 : Nat → Option Nat), (shB cI cO L1 f1 e0 FA1 ea bs (dn + 1) T (FT (dn + 1)) FT V VX VY tn rk wd tw pa pb wh of9 we kd1 st1 gb1 it1 mn1 cx1 cy1) ∧ va_P (dC, dI) classes ([(oc8 x (.ref sh) (.ref lw) (.ref ro) (.ref bq) (.ref bp) (.ref dq) (.ref dp) (.ref lv) (.ref sl) (nI (dn + 1)) (nI bs) ul 0), (oc10 sl mc9 (.ref ea) (nI T)), (oc7 sh (.ref fa) (nI (FT (dn + 1)))), (oq fa cF 200 FA1)] ++ va_pl L1 f1) t.heap ∧ va_D A ([(oc8 x (.ref sh) (.ref lw) (.ref ro) (.ref bq) (.ref bp) (.ref dq) (.ref dp) (.ref lv) (.ref sl) (nI (dn + 1)) (nI bs) ul 0), (oc10 sl mc9 (.ref ea) (nI T)), (oc7 sh (.ref fa) (nI (FT (dn + 1)))), (oq fa cF 200 FA1)] ++ va_pl L1 f1)) A) ([.ref x] : List Value).toArray s 0 0 A := ⟨_, rfl⟩
  rw [← hQ9]
  have hl := lv_entry ([.ref x]) (n := 2) (Nat.le_of_ble_eq_true rfl)
  rw [lg_entry_eq]
  generalize (lg_sl ([.ref x]) ++ List.replicate (2 - (lg_sl ([.ref x])).length) Slot.unset).toArray = ls at hl ⊢
  have hl : lv_has ls 2 [(0, .ref x)] := hl
  obtain ⟨own, fe, cl, la, sp, SA, hG9, hH9, hft9⟩ := hB
  have hN9 := hG9.2.2.2.2.2.1
  have h200 : ft ≤ 200 := Nat.le_trans hN9.2.2.2.2.1 hN9.2.2.2.2.2
  have hFT2 := hN9.2.2.2.2.2
  have hFA9 := hG9.2.2.2.2.2.2
  have hdT := hN9.2.1
  have hT5 := hN9.2.2.1
  have hbd := hN9.1
  obtain ⟨hs1, mv5, ch5, hs2, hs3⟩ := hG9.2.2.2.1 (dn + 1) (by omega) (by omega)
  obtain ⟨⟨qs5, hch5, hqs5, hql5⟩, hmv5⟩ := hs3 (by omega)
  obtain ⟨cap5, hce5, hnc5, hc10, hc1k, hent⟩ : ∃ cap : Nat, ce L f own 8002 ea (.inl (cO, cap, .inr (.inr (.inr (.inr SA))))) ∧ T ≤ cap ∧ 10 ≤ cap ∧ cap ≤ 1000 ∧ ∀ i, i < T → ∃ (y : Nat) (vs : List Value), SA i = some y ∧ ce L f own 8001 y (.inr (11, vs)) := (hG9.2.2.2.2.1).resolve_left (fun g => by omega)
  rw [Nat.add_sub_cancel] at hmv5
  rcases hmv5 with ⟨hf5, hm5⟩ | ⟨hf5, hm5⟩
  · skip
    subst hm5
    have hc9_1 : inPl L f [(oq ea cO cap5 SA), (oc11 (sp (dn + 1)) (wh (dn + 1)) (of9 (dn + 1)) (we (dn + 1)) .null ch5)] := ⟨ce_pl hce5, ce_pl hs2, trivial⟩
    have hD0_1 := hD
    obtain ⟨hP, hD⟩ := pl_out hP hD [(oq ea cO cap5 SA), (oc11 (sp (dn + 1)) (wh (dn + 1)) (of9 (dn + 1)) (we (dn + 1)) .null ch5)] hc9_1 (pw2 (ca_ne hs2.2.1 hce5.2.1).symm)
    generalize hT_1 : outPl L [(oq ea cO cap5 SA), (oc11 (sp (dn + 1)) (wh (dn + 1)) (of9 (dn + 1)) (we (dn + 1)) .null ch5)] = T_1 at hP hD
    obtain ⟨hP, hD⟩ : zPD (dC, dI) classes A ([(oc8 x (.ref sh) (.ref lw) (.ref ro) (.ref bq) (.ref bp) (.ref dq) (.ref dp) (.ref lv) (.ref sl) (nI dn) (nI bs) ul su), (oc10 sl mc9 (.ref ea) (nI T)), (oc7 sh (.ref fa) (nI ft)), (oq fa cF 200 FA), (oq ea cO cap5 SA), (oc11 (sp (dn + 1)) (wh (dn + 1)) (of9 (dn + 1)) (we (dn + 1)) .null ch5)] ++ va_pl T_1 f) s.heap := ⟨hP, hD⟩
    refine lv_aload_n hx hb dX10_redo_0 rfl (lv_at hl 0 rfl) ?_
    refine va_get (D := (dC, dI)) (ci := 8) (v := .int (nI dn)) (C := RX10) (T := TX10) (N := 13) hx hb hts inX10 hown hK hP 0 rfl rfl 9 (Nat.le_of_ble_eq_true rfl) (hts _ mw_318) (fun _ h9 => h9) rfl dX10_redo_1 ?_
    refine lv_aload_n hx hb dX10_redo_4 rfl (lv_at hl 0 rfl) ?_
    refine va_get (D := (dC, dI)) (ci := 8) (v := .ref sl) (C := RX10) (T := TX10) (N := 13) hx hb hts inX10 hown hK hP 0 rfl rfl 8 (Nat.le_of_ble_eq_true rfl) (hts _ mw_317) (fun _ h9 => h9) rfl dX10_redo_5 ?_
    obtain ⟨hPc, hDc, hFc⟩ := zc_sub (wc := [(oc10 sl mc9 (.ref ea) (nI T))]) hP hD hS hA [1] rfl rfl
    refine zcall (st1 := [.int (nI T), .int (nI dn)]) (va_runV (As := []) (rest := [.int (nI dn)]) ⟨hx, hb, hml, hown, hts⟩ (k_AL_size l dC dI cI cZ cF s.heap.size sl ea T mc9 ) (csV_90 hts rfl rfl ⟨Nat.le_of_ble_eq_true rfl, Nat.le_of_ble_eq_true rfl⟩) (zPV2 (q0 := 0) (ci := 10) hPc hDc hK3 hXN rfl rfl) rfl rfl hl.1 rfl (lv_room (Nat.le_of_ble_eq_true rfl)) dX10_redo_8 ⟨Nat.le_of_ble_eq_true rfl, Nat.le_of_ble_eq_true rfl⟩) hS hFc hFc rfl (fun t H locs ht hB hk1 hS => ?_)
    obtain ⟨hP1, hD1⟩ := hB
    rw [ht] at hP1
    obtain ⟨hP, hD⟩ := zkQ (W2 := [(oc8 x (.ref sh) (.ref lw) (.ref ro) (.ref bq) (.ref bp) (.ref dq) (.ref dp) (.ref lv) (.ref sl) (nI dn) (nI bs) ul su), (oc10 sl mc9 (.ref ea) (nI T)), (oc7 sh (.ref fa) (nI ft)), (oq fa cF 200 FA), (oq ea cO cap5 SA), (oc11 (sp (dn + 1)) (wh (dn + 1)) (of9 (dn + 1)) (we (dn + 1)) .null ch5)]) hP hD [1] [0, 2, 3, 4, 5] [0, 2, 3, 4, 5] [1] [0, 5, 1, 2, 3, 4] 6 rfl rfl rfl rfl rfl rfl rfl rfl rfl hk1 hFc hP1 hD1
    clear hk1 hPc hDc hFc hP1 hD1 ht
    have b9_2 : dn < 2147483648 := by omega
    have b9_3 : T < 2147483648 := by omega
    refine lv_icmp_lt (tgt := 21) hx hb dX10_redo_11 rfl (fun c_1 => ?_) (fun c_1 => ?_)
    · have c_1 : ((dn : Nat) : Int) < ((T : Nat) : Int) := zc_lt (nI_toInt b9_2) (nI_toInt b9_3) c_1
      refine lv_aload_n hx hb dX10_redo_21 rfl (lv_at hl 0 rfl) ?_
      refine va_get (D := (dC, dI)) (ci := 8) (v := .ref sl) (C := RX10) (T := TX10) (N := 13) hx hb hts inX10 hown hK hP 0 rfl rfl 8 (Nat.le_of_ble_eq_true rfl) (hts _ mw_317) (fun _ h9 => h9) rfl dX10_redo_22 ?_
      refine lv_aload_n hx hb dX10_redo_25 rfl (lv_at hl 0 rfl) ?_
      refine va_get (D := (dC, dI)) (ci := 8) (v := .int (nI dn)) (C := RX10) (T := TX10) (N := 13) hx hb hts inX10 hown hK hP 0 rfl rfl 9 (Nat.le_of_ble_eq_true rfl) (hts _ mw_318) (fun _ h9 => h9) rfl dX10_redo_26 ?_
      have hko : ∀ P : Nat → Prop, ¬ P 8001 → ¬ P 8002 → kpT P L f own T_1 f own := fun P h1 h2 => by rw [← hT_1]; exact kp_out (fun c hc => by simp only [List.mem_cons, List.not_mem_nil, or_false] at hc; rcases hc with rfl | rfl; (show ¬ P (own ea); rw [hce5.2.2]; exact h2); (show ¬ P (own (sp (dn + 1))); rw [hs2.2.2]; exact h1))
      obtain ⟨hPc, hDc, hFc⟩ := zc_sub (wc := [(oc10 sl mc9 (.ref ea) (nI T)), (oq ea cO cap5 SA)]) hP hD hS hA [1, 4] rfl rfl
      refine zcall (st1 := [.ref (sp (dn + 1))]) (va_runV (As := [.int (nI dn)]) (rest := []) ⟨hx, hb, hml, hown, hts⟩ (k_AL_get l dC dI cI cZ cF H.size cO e0 mi sl ea T mc9 dn cap5 (sp (dn + 1)) SA (hs1) (by first | with_reducible assumption | omega) (by first | with_reducible assumption | omega) (by first | with_reducible assumption | omega) (by first | with_reducible assumption | omega)) (csV_112 hts rfl rfl ⟨Nat.le_of_ble_eq_true rfl, Nat.le_of_ble_eq_true rfl⟩) (zPVL (q0 := 0) (ci := 10) hPc hDc hK hXL hS hFc rfl rfl) rfl rfl hl.1 rfl (lv_room (Nat.le_of_ble_eq_true rfl)) dX10_redo_29 ⟨Nat.le_of_ble_eq_true rfl, Nat.le_of_ble_eq_true rfl⟩) hS hFc hFc rfl (fun t H locs ht hB hk1 hS => ?_)
      obtain ⟨hP1, hD1⟩ := hB
      rw [ht] at hP1
      obtain ⟨hP, hD⟩ := zkQ (W2 := [(oc8 x (.ref sh) (.ref lw) (.ref ro) (.ref bq) (.ref bp) (.ref dq) (.ref dp) (.ref lv) (.ref sl) (nI dn) (nI bs) ul su), (oc10 sl mc9 (.ref ea) (nI T)), (oc7 sh (.ref fa) (nI ft)), (oq fa cF 200 FA), (oq ea cO cap5 SA), (oc11 (sp (dn + 1)) (wh (dn + 1)) (of9 (dn + 1)) (we (dn + 1)) .null ch5)]) hP hD [1, 4] [0, 2, 3, 5] [0, 2, 3, 5] [1, 4] [0, 4, 1, 2, 5, 3] 6 rfl rfl rfl rfl rfl rfl rfl rfl rfl hk1 hFc hP1 hD1
      clear hk1 hPc hDc hFc hP1 hD1 ht
      refine va_castE hx hb hown (hts _ mw_757) (z_cellR (i := 0) hK (hP 5 _ rfl) rfl) dX10_redo_32 ?_
      refine lv_astore_n (lv' := [(1, .ref (sp (dn + 1))), (0, .ref x)]) hx hb dX10_redo_35 rfl hl (Nat.le_of_ble_eq_true rfl) rfl (fun ls hl => ?_)
      refine lv_aload_n hx hb dX10_redo_36 rfl (lv_at hl 0 rfl) ?_
      obtain ⟨hPc, hDc, hFc⟩ := zc_part (cx := [(oc11 (sp (dn + 1)) (wh (dn + 1)) (of9 (dn + 1)) (we (dn + 1)) .null ch5)]) hP hD hS hA [5] rfl rfl
      refine zcall (st1 := []) (va_runV (As := []) (rest := []) ⟨hx, hb, hml, hown, hts⟩ (k_Step_repeat l dC dI cI cZ cF H.size (sp (dn + 1)) (wh (dn + 1)) (of9 (dn + 1)) (we (dn + 1)) (.null) ch5 own fe cl (la dn) (la dn) (la (dn + 1)) (FT T) qs5 rk wd tw pa pb T_1 f (FeA_kp (hko (fun g => g ≠ 8001 ∧ g ≠ 8002) (by simp) (by simp)) (fun q hq => ⟨⟨by omega, by omega⟩, ⟨by omega, by omega⟩⟩) hG9.1) (chn_kp (hko (fun g => g ≠ 8001 ∧ g ≠ 8002) (by simp) (by simp)) ⟨by omega, by omega⟩ hch5) (fun q hq => Nat.lt_of_lt_of_le (hqs5 q hq) (hN9.2.2.2.1 _ (by first | with_reducible assumption | omega) (by first | with_reducible assumption | omega)))) (csV_115 hts rfl rfl ⟨Nat.le_of_ble_eq_true rfl, Nat.le_of_ble_eq_true rfl⟩) (zPV2 (q0 := 0) (ci := 11) hPc hDc hK3 hXN rfl rfl) rfl rfl hl.1 rfl (lv_room (Nat.le_of_ble_eq_true rfl)) dX10_redo_37 ⟨Nat.le_of_ble_eq_true rfl, Nat.le_of_ble_eq_true rfl⟩) hS hFc hFc rfl (fun t H locs ht hB hk1 hS => ?_)
      obtain ⟨L7, f7, nw7, hF7, hn7, hk7, hP1, hD1⟩ := hB
      rw [ht] at hP1
      obtain ⟨hP, hD⟩ := zkP (W2 := [(oc8 x (.ref sh) (.ref lw) (.ref ro) (.ref bq) (.ref bp) (.ref dq) (.ref dp) (.ref lv) (.ref sl) (nI dn) (nI bs) ul su), (oc10 sl mc9 (.ref ea) (nI T)), (oc7 sh (.ref fa) (nI ft)), (oq fa cF 200 FA), (oq ea cO cap5 SA), (oc11 (sp (dn + 1)) (wh (dn + 1)) (of9 (dn + 1)) (we (dn + 1)) .null ch5)]) hP hD [5] [0, 1, 2, 3, 4] [0, 1, 2, 3, 4] [5] [0, 1, 2, 3, 4, 5] 6 rfl rfl rfl rfl rfl rfl rfl rfl rfl hk1 hFc hP1 hD1
      clear hk1 hPc hDc hFc hP1 hD1 ht
      refine lv_aload_n hx hb dX10_redo_40 rfl (lv_at hl 0 rfl) ?_
      refine va_get (D := (dC, dI)) (ci := 11) (v := .null) (C := RX9) (T := TX9) (N := 5) hx hb hts inX9 hown hK hP 5 rfl rfl 3 (Nat.le_of_ble_eq_true rfl) (hts _ mw_770) (fun _ h9 => h9) rfl dX10_redo_41 ?_
      refine lv_ifnullN (tgt := 59) hx hb dX10_redo_44 rfl ?_
      refine lv_aload_n hx hb dX10_redo_59 rfl (lv_at hl 1 rfl) ?_
      refine lv_dup hx hb dX10_redo_60 rfl ?_
      refine va_get (D := (dC, dI)) (ci := 8) (v := .int (nI dn)) (C := RX10) (T := TX10) (N := 13) hx hb hts inX10 hown hK hP 0 rfl rfl 9 (Nat.le_of_ble_eq_true rfl) (hts _ mw_318) (fun _ h9 => h9) rfl dX10_redo_61 ?_
      refine lv_iconst (v := 1) hx hb dX10_redo_64 rfl ?_
      refine lv_iadd hx hb dX10_redo_65 ?_
      refine zz_i (v := nI (dn + 1)) (nI_add dn 1) ?_
      refine va_put (D := (dC, dI)) (ci := 8) (v := .int (nI (dn + 1))) (ty := .int) (C := RX10) (T := TX10) (N := 13) hx hb hts inX10 tyX10 tyX10_ok nmX10 hown hK hP hD hS 0 rfl rfl 9 (by decide) (hts _ mw_318) (fun _ h9 => h9) rfl (by decide +kernel) rfl rfl (Nat.le_of_ble_eq_true rfl) dX10_redo_66 (fun H locs hP hD hS => ?_)
      obtain ⟨hP, hD⟩ : zPD (dC, dI) classes A ([(oc8 x (.ref sh) (.ref lw) (.ref ro) (.ref bq) (.ref bp) (.ref dq) (.ref dp) (.ref lv) (.ref sl) (nI (dn + 1)) (nI bs) ul su), (oc10 sl mc9 (.ref ea) (nI T)), (oc7 sh (.ref fa) (nI ft)), (oq fa cF 200 FA), (oq ea cO cap5 SA), (oc11 (sp (dn + 1)) (wh (dn + 1)) (of9 (dn + 1)) (we (dn + 1)) .null ch5)] ++ va_pl L7 f7) H := ⟨hP, hD⟩
      refine lv_aload_n hx hb dX10_redo_69 rfl (lv_at hl 1 rfl) ?_
      refine lv_iconst (v := 0) hx hb dX10_redo_70 rfl ?_
      refine va_put (D := (dC, dI)) (ci := 8) (v := .int 0) (ty := .int) (C := RX10) (T := TX10) (N := 13) hx hb hts inX10 tyX10 tyX10_ok nmX10 hown hK hP hD hS 0 rfl rfl 12 (by decide) (hts _ mw_321) (fun _ h9 => h9) rfl (by decide +kernel) rfl rfl (Nat.le_of_ble_eq_true rfl) dX10_redo_71 (fun H locs hP hD hS => ?_)
      obtain ⟨hP, hD⟩ : zPD (dC, dI) classes A ([(oc8 x (.ref sh) (.ref lw) (.ref ro) (.ref bq) (.ref bp) (.ref dq) (.ref dp) (.ref lv) (.ref sl) (nI (dn + 1)) (nI bs) ul 0), (oc10 sl mc9 (.ref ea) (nI T)), (oc7 sh (.ref fa) (nI ft)), (oq fa cF 200 FA), (oq ea cO cap5 SA), (oc11 (sp (dn + 1)) (wh (dn + 1)) (of9 (dn + 1)) (we (dn + 1)) .null ch5)] ++ va_pl L7 f7) H := ⟨hP, hD⟩
      refine lv_aload_n hx hb dX10_redo_74 rfl (lv_at hl 1 rfl) ?_
      refine va_get (D := (dC, dI)) (ci := 8) (v := .int (nI (dn + 1))) (C := RX10) (T := TX10) (N := 13) hx hb hts inX10 hown hK hP 0 rfl rfl 9 (Nat.le_of_ble_eq_true rfl) (hts _ mw_318) (fun _ h9 => h9) rfl dX10_redo_75 ?_
      have hP : va_P (dC, dI) classes (([(oc8 x (.ref sh) (.ref lw) (.ref ro) (.ref bq) (.ref bp) (.ref dq) (.ref dp) (.ref lv) (.ref sl) (nI (dn + 1)) (nI bs) ul 0), (oc10 sl mc9 (.ref ea) (nI T)), (oc7 sh (.ref fa) (nI ft)), (oq fa cF 200 FA)] ++ [(oq ea cO cap5 SA), (oc11 (sp (dn + 1)) (wh (dn + 1)) (of9 (dn + 1)) (we (dn + 1)) .null ch5)]) ++ va_pl L7 f7) H := hP
      have hD : va_D A (([(oc8 x (.ref sh) (.ref lw) (.ref ro) (.ref bq) (.ref bp) (.ref dq) (.ref dp) (.ref lv) (.ref sl) (nI (dn + 1)) (nI bs) ul 0), (oc10 sl mc9 (.ref ea) (nI T)), (oc7 sh (.ref fa) (nI ft)), (oq fa cF 200 FA)] ++ [(oq ea cO cap5 SA), (oc11 (sp (dn + 1)) (wh (dn + 1)) (of9 (dn + 1)) (we (dn + 1)) .null ch5)]) ++ va_pl L7 f7) := hD
      obtain ⟨Lp2, fp2, hP, hD, hpin_2⟩ := pl_pin (cs := []) (old := []) (new := [(oq ea cO cap5 SA), (oc11 (sp (dn + 1)) (wh (dn + 1)) (of9 (dn + 1)) (we (dn + 1)) .null ch5)]) (cs1 := [(oq ea cO cap5 SA), (oc11 (sp (dn + 1)) (wh (dn + 1)) (of9 (dn + 1)) (we (dn + 1)) .null ch5)]) (X := [(oc8 x (.ref sh) (.ref lw) (.ref ro) (.ref bq) (.ref bp) (.ref dq) (.ref dp) (.ref lv) (.ref sl) (nI (dn + 1)) (nI bs) ul 0), (oc10 sl mc9 (.ref ea) (nI T)), (oc7 sh (.ref fa) (nI ft)), (oq fa cF 200 FA)]) (L := L7) (f := f7) rfl rfl (by rw [outPl_nil]; exact hP) (by rw [outPl_nil]; exact hD)
      obtain ⟨hfr_2, hkp_2, hce_2, hsx_2, hpw_2⟩ := id hpin_2
      have hk79 : kpT (fun g => ¬ g % 8 = 0) L f own Lp2 fp2 own := kp_re (cs := [(ea, .inl (cO, cap5, .inr (.inr (.inr (.inr SA))))), (sp (dn + 1), .inr (11, [.int (wh (dn + 1)), .int (of9 (dn + 1)), .int (we (dn + 1)), .null, ch5]))]) (by rw [hT_1]; exact hk7) (hkp_2 own own _ (fun _ _ => rfl) trivial) (fun c hc g e h => by simp only [List.mem_cons, List.not_mem_nil, or_false] at hc; rcases hc with rfl | rfl; (obtain ⟨e1, e2⟩ := ce_eq h hce5; rw [e1, e2]; exact hce_2 own 0 _ _ _ rfl hce5.2.2); (obtain ⟨e1, e2⟩ := ce_eq h hs2; rw [e1, e2]; exact hce_2 own 1 _ _ _ rfl hs2.2.2))
      have hF79 : FeA cI Lp2 fp2 own (FT T) fe (la (dn + 1)) cl (fun _ => .null) rk wd tw pa pb := FeA_cg (FeA_kp (hkp_2 own own (fun _ => True) (fun _ _ => rfl) trivial) (fun _ _ => ⟨trivial, trivial⟩) hF7) (fun q hq => by by_cases m : q ∈ qs5; exact ((hn7 q).1 m).symm; rw [(hn7 q).2 m]; exact (hql5 q hq m).symm)
      have hB6 := U_pos (FA1 := FA) (ft1 := FT (dn + 1)) hF79 hk79 hG9 hH9 hft9 (by omega) (by omega) rfl (fun q hq => hFA9 q (by omega)) hc
      obtain ⟨hP9, hD9⟩ := zq_part (cx := [(oc8 x (.ref sh) (.ref lw) (.ref ro) (.ref bq) (.ref bp) (.ref dq) (.ref dp) (.ref lv) (.ref sl) (nI (dn + 1)) (nI bs) ul 0), (oc10 sl mc9 (.ref ea) (nI T)), (oc7 sh (.ref fa) (nI ft)), (oq fa cF 200 FA)]) hP hD [0, 1, 2, 3] rfl rfl
      have hE9 : (([(oc8 x (.ref sh) (.ref lw) (.ref ro) (.ref bq) (.ref bp) (.ref dq) (.ref dp) (.ref lv) (.ref sl) (nI (dn + 1)) (nI bs) ul 0), (oc10 sl mc9 (.ref ea) (nI T)), (oc7 sh (.ref fa) (nI ft)), (oq fa cF 200 FA)] ++ va_pl Lp2 fp2) : va_W) = ([(oc8 x (.ref sh) (.ref lw) (.ref ro) (.ref bq) (.ref bp) (.ref dq) (.ref dp) (.ref lv) (.ref sl) (nI (dn + 1)) (nI bs) ul 0), (oc10 sl mc9 (.ref ea) (nI T)), (oc7 sh (.ref fa) (nI (FT (dn + 1)))), (oq fa cF 200 FA)] ++ va_pl Lp2 fp2) := by rw [show ft = FT (dn + 1) by omega]
      rw [hE9] at hP9 hD9
      rw [hQ9]
      exact W.iret (v := nI (dn + 1)) hx hb hr (fun t ht hW => ⟨⟨rfl, Lp2, fp2, FA, (hB6), by rw [ht]; exact hP9, hD9⟩, hS.F ht⟩) hS.2.2 dX10_redo_78
    · have c_1 : ((T : Nat) : Int) ≤ ((dn : Nat) : Int) := zc_nlt (nI_toInt b9_2) (nI_toInt b9_3) c_1
      exfalso; omega
  · skip
    subst hm5
    have hc9_1 : inPl L f [(oq ea cO cap5 SA), (oc11 (sp (dn + 1)) (wh (dn + 1)) (of9 (dn + 1)) (we (dn + 1)) (.ref (fe (FT dn))) ch5)] := ⟨ce_pl hce5, ce_pl hs2, trivial⟩
    have hD0_1 := hD
    obtain ⟨hP, hD⟩ := pl_out hP hD [(oq ea cO cap5 SA), (oc11 (sp (dn + 1)) (wh (dn + 1)) (of9 (dn + 1)) (we (dn + 1)) (.ref (fe (FT dn))) ch5)] hc9_1 (pw2 (ca_ne hs2.2.1 hce5.2.1).symm)
    generalize hT_1 : outPl L [(oq ea cO cap5 SA), (oc11 (sp (dn + 1)) (wh (dn + 1)) (of9 (dn + 1)) (we (dn + 1)) (.ref (fe (FT dn))) ch5)] = T_1 at hP hD
    obtain ⟨hP, hD⟩ : zPD (dC, dI) classes A ([(oc8 x (.ref sh) (.ref lw) (.ref ro) (.ref bq) (.ref bp) (.ref dq) (.ref dp) (.ref lv) (.ref sl) (nI dn) (nI bs) ul su), (oc10 sl mc9 (.ref ea) (nI T)), (oc7 sh (.ref fa) (nI ft)), (oq fa cF 200 FA), (oq ea cO cap5 SA), (oc11 (sp (dn + 1)) (wh (dn + 1)) (of9 (dn + 1)) (we (dn + 1)) (.ref (fe (FT dn))) ch5)] ++ va_pl T_1 f) s.heap := ⟨hP, hD⟩
    refine lv_aload_n hx hb dX10_redo_0 rfl (lv_at hl 0 rfl) ?_
    refine va_get (D := (dC, dI)) (ci := 8) (v := .int (nI dn)) (C := RX10) (T := TX10) (N := 13) hx hb hts inX10 hown hK hP 0 rfl rfl 9 (Nat.le_of_ble_eq_true rfl) (hts _ mw_318) (fun _ h9 => h9) rfl dX10_redo_1 ?_
    refine lv_aload_n hx hb dX10_redo_4 rfl (lv_at hl 0 rfl) ?_
    refine va_get (D := (dC, dI)) (ci := 8) (v := .ref sl) (C := RX10) (T := TX10) (N := 13) hx hb hts inX10 hown hK hP 0 rfl rfl 8 (Nat.le_of_ble_eq_true rfl) (hts _ mw_317) (fun _ h9 => h9) rfl dX10_redo_5 ?_
    obtain ⟨hPc, hDc, hFc⟩ := zc_sub (wc := [(oc10 sl mc9 (.ref ea) (nI T))]) hP hD hS hA [1] rfl rfl
    refine zcall (st1 := [.int (nI T), .int (nI dn)]) (va_runV (As := []) (rest := [.int (nI dn)]) ⟨hx, hb, hml, hown, hts⟩ (k_AL_size l dC dI cI cZ cF s.heap.size sl ea T mc9 ) (csV_90 hts rfl rfl ⟨Nat.le_of_ble_eq_true rfl, Nat.le_of_ble_eq_true rfl⟩) (zPV2 (q0 := 0) (ci := 10) hPc hDc hK3 hXN rfl rfl) rfl rfl hl.1 rfl (lv_room (Nat.le_of_ble_eq_true rfl)) dX10_redo_8 ⟨Nat.le_of_ble_eq_true rfl, Nat.le_of_ble_eq_true rfl⟩) hS hFc hFc rfl (fun t H locs ht hB hk1 hS => ?_)
    obtain ⟨hP1, hD1⟩ := hB
    rw [ht] at hP1
    obtain ⟨hP, hD⟩ := zkQ (W2 := [(oc8 x (.ref sh) (.ref lw) (.ref ro) (.ref bq) (.ref bp) (.ref dq) (.ref dp) (.ref lv) (.ref sl) (nI dn) (nI bs) ul su), (oc10 sl mc9 (.ref ea) (nI T)), (oc7 sh (.ref fa) (nI ft)), (oq fa cF 200 FA), (oq ea cO cap5 SA), (oc11 (sp (dn + 1)) (wh (dn + 1)) (of9 (dn + 1)) (we (dn + 1)) (.ref (fe (FT dn))) ch5)]) hP hD [1] [0, 2, 3, 4, 5] [0, 2, 3, 4, 5] [1] [0, 5, 1, 2, 3, 4] 6 rfl rfl rfl rfl rfl rfl rfl rfl rfl hk1 hFc hP1 hD1
    clear hk1 hPc hDc hFc hP1 hD1 ht
    have b9_5 : dn < 2147483648 := by omega
    have b9_6 : T < 2147483648 := by omega
    refine lv_icmp_lt (tgt := 21) hx hb dX10_redo_11 rfl (fun c_4 => ?_) (fun c_4 => ?_)
    · have c_4 : ((dn : Nat) : Int) < ((T : Nat) : Int) := zc_lt (nI_toInt b9_5) (nI_toInt b9_6) c_4
      refine lv_aload_n hx hb dX10_redo_21 rfl (lv_at hl 0 rfl) ?_
      refine va_get (D := (dC, dI)) (ci := 8) (v := .ref sl) (C := RX10) (T := TX10) (N := 13) hx hb hts inX10 hown hK hP 0 rfl rfl 8 (Nat.le_of_ble_eq_true rfl) (hts _ mw_317) (fun _ h9 => h9) rfl dX10_redo_22 ?_
      refine lv_aload_n hx hb dX10_redo_25 rfl (lv_at hl 0 rfl) ?_
      refine va_get (D := (dC, dI)) (ci := 8) (v := .int (nI dn)) (C := RX10) (T := TX10) (N := 13) hx hb hts inX10 hown hK hP 0 rfl rfl 9 (Nat.le_of_ble_eq_true rfl) (hts _ mw_318) (fun _ h9 => h9) rfl dX10_redo_26 ?_
      have hko : ∀ P : Nat → Prop, ¬ P 8001 → ¬ P 8002 → kpT P L f own T_1 f own := fun P h1 h2 => by rw [← hT_1]; exact kp_out (fun c hc => by simp only [List.mem_cons, List.not_mem_nil, or_false] at hc; rcases hc with rfl | rfl; (show ¬ P (own ea); rw [hce5.2.2]; exact h2); (show ¬ P (own (sp (dn + 1))); rw [hs2.2.2]; exact h1))
      obtain ⟨hPc, hDc, hFc⟩ := zc_sub (wc := [(oc10 sl mc9 (.ref ea) (nI T)), (oq ea cO cap5 SA)]) hP hD hS hA [1, 4] rfl rfl
      refine zcall (st1 := [.ref (sp (dn + 1))]) (va_runV (As := [.int (nI dn)]) (rest := []) ⟨hx, hb, hml, hown, hts⟩ (k_AL_get l dC dI cI cZ cF H.size cO e0 mi sl ea T mc9 dn cap5 (sp (dn + 1)) SA (hs1) (by first | with_reducible assumption | omega) (by first | with_reducible assumption | omega) (by first | with_reducible assumption | omega) (by first | with_reducible assumption | omega)) (csV_112 hts rfl rfl ⟨Nat.le_of_ble_eq_true rfl, Nat.le_of_ble_eq_true rfl⟩) (zPVL (q0 := 0) (ci := 10) hPc hDc hK hXL hS hFc rfl rfl) rfl rfl hl.1 rfl (lv_room (Nat.le_of_ble_eq_true rfl)) dX10_redo_29 ⟨Nat.le_of_ble_eq_true rfl, Nat.le_of_ble_eq_true rfl⟩) hS hFc hFc rfl (fun t H locs ht hB hk1 hS => ?_)
      obtain ⟨hP1, hD1⟩ := hB
      rw [ht] at hP1
      obtain ⟨hP, hD⟩ := zkQ (W2 := [(oc8 x (.ref sh) (.ref lw) (.ref ro) (.ref bq) (.ref bp) (.ref dq) (.ref dp) (.ref lv) (.ref sl) (nI dn) (nI bs) ul su), (oc10 sl mc9 (.ref ea) (nI T)), (oc7 sh (.ref fa) (nI ft)), (oq fa cF 200 FA), (oq ea cO cap5 SA), (oc11 (sp (dn + 1)) (wh (dn + 1)) (of9 (dn + 1)) (we (dn + 1)) (.ref (fe (FT dn))) ch5)]) hP hD [1, 4] [0, 2, 3, 5] [0, 2, 3, 5] [1, 4] [0, 4, 1, 2, 5, 3] 6 rfl rfl rfl rfl rfl rfl rfl rfl rfl hk1 hFc hP1 hD1
      clear hk1 hPc hDc hFc hP1 hD1 ht
      refine va_castE hx hb hown (hts _ mw_757) (z_cellR (i := 0) hK (hP 5 _ rfl) rfl) dX10_redo_32 ?_
      refine lv_astore_n (lv' := [(1, .ref (sp (dn + 1))), (0, .ref x)]) hx hb dX10_redo_35 rfl hl (Nat.le_of_ble_eq_true rfl) rfl (fun ls hl => ?_)
      refine lv_aload_n hx hb dX10_redo_36 rfl (lv_at hl 0 rfl) ?_
      obtain ⟨hPc, hDc, hFc⟩ := zc_part (cx := [(oc11 (sp (dn + 1)) (wh (dn + 1)) (of9 (dn + 1)) (we (dn + 1)) (.ref (fe (FT dn))) ch5)]) hP hD hS hA [5] rfl rfl
      refine zcall (st1 := []) (va_runV (As := []) (rest := []) ⟨hx, hb, hml, hown, hts⟩ (k_Step_repeat l dC dI cI cZ cF H.size (sp (dn + 1)) (wh (dn + 1)) (of9 (dn + 1)) (we (dn + 1)) (.ref (fe (FT dn))) ch5 own fe cl (la dn) (la dn) (la (dn + 1)) (FT T) qs5 rk wd tw pa pb T_1 f (FeA_kp (hko (fun g => g ≠ 8001 ∧ g ≠ 8002) (by simp) (by simp)) (fun q hq => ⟨⟨by omega, by omega⟩, ⟨by omega, by omega⟩⟩) hG9.1) (chn_kp (hko (fun g => g ≠ 8001 ∧ g ≠ 8002) (by simp) (by simp)) ⟨by omega, by omega⟩ hch5) (fun q hq => Nat.lt_of_lt_of_le (hqs5 q hq) (hN9.2.2.2.1 _ (by first | with_reducible assumption | omega) (by first | with_reducible assumption | omega)))) (csV_115 hts rfl rfl ⟨Nat.le_of_ble_eq_true rfl, Nat.le_of_ble_eq_true rfl⟩) (zPV2 (q0 := 0) (ci := 11) hPc hDc hK3 hXN rfl rfl) rfl rfl hl.1 rfl (lv_room (Nat.le_of_ble_eq_true rfl)) dX10_redo_37 ⟨Nat.le_of_ble_eq_true rfl, Nat.le_of_ble_eq_true rfl⟩) hS hFc hFc rfl (fun t H locs ht hB hk1 hS => ?_)
      obtain ⟨L7, f7, nw7, hF7, hn7, hk7, hP1, hD1⟩ := hB
      rw [ht] at hP1
      obtain ⟨hP, hD⟩ := zkP (W2 := [(oc8 x (.ref sh) (.ref lw) (.ref ro) (.ref bq) (.ref bp) (.ref dq) (.ref dp) (.ref lv) (.ref sl) (nI dn) (nI bs) ul su), (oc10 sl mc9 (.ref ea) (nI T)), (oc7 sh (.ref fa) (nI ft)), (oq fa cF 200 FA), (oq ea cO cap5 SA), (oc11 (sp (dn + 1)) (wh (dn + 1)) (of9 (dn + 1)) (we (dn + 1)) (.ref (fe (FT dn))) ch5)]) hP hD [5] [0, 1, 2, 3, 4] [0, 1, 2, 3, 4] [5] [0, 1, 2, 3, 4, 5] 6 rfl rfl rfl rfl rfl rfl rfl rfl rfl hk1 hFc hP1 hD1
      clear hk1 hPc hDc hFc hP1 hD1 ht
      refine lv_aload_n hx hb dX10_redo_40 rfl (lv_at hl 0 rfl) ?_
      refine va_get (D := (dC, dI)) (ci := 11) (v := .ref (fe (FT dn))) (C := RX9) (T := TX9) (N := 5) hx hb hts inX9 hown hK hP 5 rfl rfl 3 (Nat.le_of_ble_eq_true rfl) (hts _ mw_770) (fun _ h9 => h9) rfl dX10_redo_41 ?_
      refine lv_ifnull hx hb dX10_redo_44 ?_
      have hlt8 : FT dn < FT T := by have := hN9.2.2.2.1 (dn + 1) (by omega) (by omega); omega
      obtain ⟨lo8, hcf8⟩ := FeA_c hF7 hlt8
      have hc9_2 : inPl L7 f7 [(oc1 (fe (FT dn)) (rk (FT dn)) (wd (FT dn)) (tw (FT dn)) (pa (FT dn)) (pb (FT dn)) (.ref lo8) (.ref (nw7 (FT dn))) .null)] := ⟨ce_pl hcf8, trivial⟩
      have hD0_2 := hD
      obtain ⟨hP, hD⟩ := pl_out hP hD [(oc1 (fe (FT dn)) (rk (FT dn)) (wd (FT dn)) (tw (FT dn)) (pa (FT dn)) (pb (FT dn)) (.ref lo8) (.ref (nw7 (FT dn))) .null)] hc9_2 (List.pairwise_singleton _ _)
      generalize hT_2 : outPl L7 [(oc1 (fe (FT dn)) (rk (FT dn)) (wd (FT dn)) (tw (FT dn)) (pa (FT dn)) (pb (FT dn)) (.ref lo8) (.ref (nw7 (FT dn))) .null)] = T_2 at hP hD
      obtain ⟨hP, hD⟩ : zPD (dC, dI) classes A ([(oc8 x (.ref sh) (.ref lw) (.ref ro) (.ref bq) (.ref bp) (.ref dq) (.ref dp) (.ref lv) (.ref sl) (nI dn) (nI bs) ul su), (oc10 sl mc9 (.ref ea) (nI T)), (oc7 sh (.ref fa) (nI ft)), (oq fa cF 200 FA), (oq ea cO cap5 SA), (oc11 (sp (dn + 1)) (wh (dn + 1)) (of9 (dn + 1)) (we (dn + 1)) (.ref (fe (FT dn))) ch5), (oc1 (fe (FT dn)) (rk (FT dn)) (wd (FT dn)) (tw (FT dn)) (pa (FT dn)) (pb (FT dn)) (.ref lo8) (.ref (nw7 (FT dn))) .null)] ++ va_pl T_2 f7) H := ⟨hP, hD⟩
      refine lv_aload_n hx hb dX10_redo_47 rfl (lv_at hl 1 rfl) ?_
      refine va_get (D := (dC, dI)) (ci := 8) (v := .ref sh) (C := RX10) (T := TX10) (N := 13) hx hb hts inX10 hown hK hP 0 rfl rfl 0 (Nat.le_of_ble_eq_true rfl) (hts _ mw_309) (fun _ h9 => h9) rfl dX10_redo_48 ?_
      refine lv_aload_n hx hb dX10_redo_51 rfl (lv_at hl 0 rfl) ?_
      refine va_get (D := (dC, dI)) (ci := 11) (v := .ref (fe (FT dn))) (C := RX9) (T := TX9) (N := 5) hx hb hts inX9 hown hK hP 5 rfl rfl 3 (Nat.le_of_ble_eq_true rfl) (hts _ mw_770) (fun _ h9 => h9) rfl dX10_redo_52 ?_
      obtain ⟨hPc, hDc, hFc⟩ := zc_sub (wc := [(oc7 sh (.ref fa) (nI ft)), (oq fa cF 200 FA), (oc1 (fe (FT dn)) (rk (FT dn)) (wd (FT dn)) (tw (FT dn)) (pa (FT dn)) (pb (FT dn)) (.ref lo8) (.ref (nw7 (FT dn))) .null)]) hP hD hS hA [2, 3, 6] rfl rfl
      refine zcall (st1 := [.int (nI ft)]) (va_runV (As := [.ref (fe (FT dn))]) (rest := []) ⟨hx, hb, hml, hown, hts⟩ (k_Sheet_add l dC dI cI cZ cF H.size sh fa ft FA (fe (FT dn)) lo8 (rk (FT dn)) (wd (FT dn)) (tw (FT dn)) (pa (FT dn)) (pb (FT dn)) (nw7 (FT dn)) (by first | with_reducible assumption | omega)) (csV_106 hts rfl rfl ⟨Nat.le_of_ble_eq_true rfl, Nat.le_of_ble_eq_true rfl⟩) (zPV2 (q0 := 0) (ci := 7) hPc hDc hK3 hXN rfl rfl) rfl rfl hl.1 rfl (lv_room (Nat.le_of_ble_eq_true rfl)) dX10_redo_55 ⟨Nat.le_of_ble_eq_true rfl, Nat.le_of_ble_eq_true rfl⟩) hS hFc hFc rfl (fun t H locs ht hB hk1 hS => ?_)
      obtain ⟨hP1, hD1⟩ := hB
      rw [ht] at hP1
      obtain ⟨hP, hD⟩ := zkQ (W2 := [(oc8 x (.ref sh) (.ref lw) (.ref ro) (.ref bq) (.ref bp) (.ref dq) (.ref dp) (.ref lv) (.ref sl) (nI dn) (nI bs) ul su), (oc10 sl mc9 (.ref ea) (nI T)), (oc7 sh (.ref fa) (nI (ft + 1))), (oq fa cF 200 (va_up FA ft (some (fe (FT dn))))), (oq ea cO cap5 SA), (oc11 (sp (dn + 1)) (wh (dn + 1)) (of9 (dn + 1)) (we (dn + 1)) (.ref (fe (FT dn))) ch5), (oc1 (fe (FT dn)) (rk (FT dn)) (wd (FT dn)) (tw (FT dn)) (pa (FT dn)) (pb (FT dn)) (.ref lo8) (.ref (nw7 (FT dn))) .null)]) hP hD [2, 3, 6] [0, 1, 4, 5] [0, 1, 4, 5] [2, 3, 6] [0, 1, 4, 5, 2, 3, 6] 7 rfl rfl rfl rfl rfl rfl rfl rfl rfl hk1 hFc hP1 hD1
      clear hk1 hPc hDc hFc hP1 hD1 ht
      have hP := pl_back (cs := [(oc1 (fe (FT dn)) (rk (FT dn)) (wd (FT dn)) (tw (FT dn)) (pa (FT dn)) (pb (FT dn)) (.ref lo8) (.ref (nw7 (FT dn))) .null)]) (L := L7) (f := f7) (X := [(oc8 x (.ref sh) (.ref lw) (.ref ro) (.ref bq) (.ref bp) (.ref dq) (.ref dp) (.ref lv) (.ref sl) (nI dn) (nI bs) ul su), (oc10 sl mc9 (.ref ea) (nI T)), (oc7 sh (.ref fa) (nI (ft + 1))), (oq fa cF 200 (va_up FA ft (some (fe (FT dn))))), (oq ea cO cap5 SA), (oc11 (sp (dn + 1)) (wh (dn + 1)) (of9 (dn + 1)) (we (dn + 1)) (.ref (fe (FT dn))) ch5)]) (by rw [hT_2]; exact (show va_P (dC, dI) classes (([(oc8 x (.ref sh) (.ref lw) (.ref ro) (.ref bq) (.ref bp) (.ref dq) (.ref dp) (.ref lv) (.ref sl) (nI dn) (nI bs) ul su), (oc10 sl mc9 (.ref ea) (nI T)), (oc7 sh (.ref fa) (nI (ft + 1))), (oq fa cF 200 (va_up FA ft (some (fe (FT dn))))), (oq ea cO cap5 SA), (oc11 (sp (dn + 1)) (wh (dn + 1)) (of9 (dn + 1)) (we (dn + 1)) (.ref (fe (FT dn))) ch5)] ++ [(oc1 (fe (FT dn)) (rk (FT dn)) (wd (FT dn)) (tw (FT dn)) (pa (FT dn)) (pb (FT dn)) (.ref lo8) (.ref (nw7 (FT dn))) .null)]) ++ va_pl T_2 f7) H from hP)) hc9_2
      have hD : va_D A ([(oc8 x (.ref sh) (.ref lw) (.ref ro) (.ref bq) (.ref bp) (.ref dq) (.ref dp) (.ref lv) (.ref sl) (nI dn) (nI bs) ul su), (oc10 sl mc9 (.ref ea) (nI T)), (oc7 sh (.ref fa) (nI (ft + 1))), (oq fa cF 200 (va_up FA ft (some (fe (FT dn))))), (oq ea cO cap5 SA), (oc11 (sp (dn + 1)) (wh (dn + 1)) (of9 (dn + 1)) (we (dn + 1)) (.ref (fe (FT dn))) ch5)] ++ va_pl L7 f7) := vaD_ae hD0_2 rfl
      refine lv_pop hx hb dX10_redo_58 rfl ?_
      refine lv_aload_n hx hb dX10_redo_59 rfl (lv_at hl 1 rfl) ?_
      refine lv_dup hx hb dX10_redo_60 rfl ?_
      refine va_get (D := (dC, dI)) (ci := 8) (v := .int (nI dn)) (C := RX10) (T := TX10) (N := 13) hx hb hts inX10 hown hK hP 0 rfl rfl 9 (Nat.le_of_ble_eq_true rfl) (hts _ mw_318) (fun _ h9 => h9) rfl dX10_redo_61 ?_
      refine lv_iconst (v := 1) hx hb dX10_redo_64 rfl ?_
      refine lv_iadd hx hb dX10_redo_65 ?_
      refine zz_i (v := nI (dn + 1)) (nI_add dn 1) ?_
      refine va_put (D := (dC, dI)) (ci := 8) (v := .int (nI (dn + 1))) (ty := .int) (C := RX10) (T := TX10) (N := 13) hx hb hts inX10 tyX10 tyX10_ok nmX10 hown hK hP hD hS 0 rfl rfl 9 (by decide) (hts _ mw_318) (fun _ h9 => h9) rfl (by decide +kernel) rfl rfl (Nat.le_of_ble_eq_true rfl) dX10_redo_66 (fun H locs hP hD hS => ?_)
      obtain ⟨hP, hD⟩ : zPD (dC, dI) classes A ([(oc8 x (.ref sh) (.ref lw) (.ref ro) (.ref bq) (.ref bp) (.ref dq) (.ref dp) (.ref lv) (.ref sl) (nI (dn + 1)) (nI bs) ul su), (oc10 sl mc9 (.ref ea) (nI T)), (oc7 sh (.ref fa) (nI (ft + 1))), (oq fa cF 200 (va_up FA ft (some (fe (FT dn))))), (oq ea cO cap5 SA), (oc11 (sp (dn + 1)) (wh (dn + 1)) (of9 (dn + 1)) (we (dn + 1)) (.ref (fe (FT dn))) ch5)] ++ va_pl L7 f7) H := ⟨hP, hD⟩
      refine lv_aload_n hx hb dX10_redo_69 rfl (lv_at hl 1 rfl) ?_
      refine lv_iconst (v := 0) hx hb dX10_redo_70 rfl ?_
      refine va_put (D := (dC, dI)) (ci := 8) (v := .int 0) (ty := .int) (C := RX10) (T := TX10) (N := 13) hx hb hts inX10 tyX10 tyX10_ok nmX10 hown hK hP hD hS 0 rfl rfl 12 (by decide) (hts _ mw_321) (fun _ h9 => h9) rfl (by decide +kernel) rfl rfl (Nat.le_of_ble_eq_true rfl) dX10_redo_71 (fun H locs hP hD hS => ?_)
      obtain ⟨hP, hD⟩ : zPD (dC, dI) classes A ([(oc8 x (.ref sh) (.ref lw) (.ref ro) (.ref bq) (.ref bp) (.ref dq) (.ref dp) (.ref lv) (.ref sl) (nI (dn + 1)) (nI bs) ul 0), (oc10 sl mc9 (.ref ea) (nI T)), (oc7 sh (.ref fa) (nI (ft + 1))), (oq fa cF 200 (va_up FA ft (some (fe (FT dn))))), (oq ea cO cap5 SA), (oc11 (sp (dn + 1)) (wh (dn + 1)) (of9 (dn + 1)) (we (dn + 1)) (.ref (fe (FT dn))) ch5)] ++ va_pl L7 f7) H := ⟨hP, hD⟩
      refine lv_aload_n hx hb dX10_redo_74 rfl (lv_at hl 1 rfl) ?_
      refine va_get (D := (dC, dI)) (ci := 8) (v := .int (nI (dn + 1))) (C := RX10) (T := TX10) (N := 13) hx hb hts inX10 hown hK hP 0 rfl rfl 9 (Nat.le_of_ble_eq_true rfl) (hts _ mw_318) (fun _ h9 => h9) rfl dX10_redo_75 ?_
      have hP : va_P (dC, dI) classes (([(oc8 x (.ref sh) (.ref lw) (.ref ro) (.ref bq) (.ref bp) (.ref dq) (.ref dp) (.ref lv) (.ref sl) (nI (dn + 1)) (nI bs) ul 0), (oc10 sl mc9 (.ref ea) (nI T)), (oc7 sh (.ref fa) (nI (ft + 1))), (oq fa cF 200 (va_up FA ft (some (fe (FT dn)))))] ++ [(oq ea cO cap5 SA), (oc11 (sp (dn + 1)) (wh (dn + 1)) (of9 (dn + 1)) (we (dn + 1)) (.ref (fe (FT dn))) ch5)]) ++ va_pl L7 f7) H := hP
      have hD : va_D A (([(oc8 x (.ref sh) (.ref lw) (.ref ro) (.ref bq) (.ref bp) (.ref dq) (.ref dp) (.ref lv) (.ref sl) (nI (dn + 1)) (nI bs) ul 0), (oc10 sl mc9 (.ref ea) (nI T)), (oc7 sh (.ref fa) (nI (ft + 1))), (oq fa cF 200 (va_up FA ft (some (fe (FT dn)))))] ++ [(oq ea cO cap5 SA), (oc11 (sp (dn + 1)) (wh (dn + 1)) (of9 (dn + 1)) (we (dn + 1)) (.ref (fe (FT dn))) ch5)]) ++ va_pl L7 f7) := hD
      obtain ⟨Lp3, fp3, hP, hD, hpin_3⟩ := pl_pin (cs := []) (old := []) (new := [(oq ea cO cap5 SA), (oc11 (sp (dn + 1)) (wh (dn + 1)) (of9 (dn + 1)) (we (dn + 1)) (.ref (fe (FT dn))) ch5)]) (cs1 := [(oq ea cO cap5 SA), (oc11 (sp (dn + 1)) (wh (dn + 1)) (of9 (dn + 1)) (we (dn + 1)) (.ref (fe (FT dn))) ch5)]) (X := [(oc8 x (.ref sh) (.ref lw) (.ref ro) (.ref bq) (.ref bp) (.ref dq) (.ref dp) (.ref lv) (.ref sl) (nI (dn + 1)) (nI bs) ul 0), (oc10 sl mc9 (.ref ea) (nI T)), (oc7 sh (.ref fa) (nI (ft + 1))), (oq fa cF 200 (va_up FA ft (some (fe (FT dn)))))]) (L := L7) (f := f7) rfl rfl (by rw [outPl_nil]; exact hP) (by rw [outPl_nil]; exact hD)
      obtain ⟨hfr_3, hkp_3, hce_3, hsx_3, hpw_3⟩ := id hpin_3
      have hk79 : kpT (fun g => ¬ g % 8 = 0) L f own Lp3 fp3 own := kp_re (cs := [(ea, .inl (cO, cap5, .inr (.inr (.inr (.inr SA))))), (sp (dn + 1), .inr (11, [.int (wh (dn + 1)), .int (of9 (dn + 1)), .int (we (dn + 1)), .ref (fe (FT dn)), ch5]))]) (by rw [hT_1]; exact hk7) (hkp_3 own own _ (fun _ _ => rfl) trivial) (fun c hc g e h => by simp only [List.mem_cons, List.not_mem_nil, or_false] at hc; rcases hc with rfl | rfl; (obtain ⟨e1, e2⟩ := ce_eq h hce5; rw [e1, e2]; exact hce_3 own 0 _ _ _ rfl hce5.2.2); (obtain ⟨e1, e2⟩ := ce_eq h hs2; rw [e1, e2]; exact hce_3 own 1 _ _ _ rfl hs2.2.2))
      have hF79 : FeA cI Lp3 fp3 own (FT T) fe (la (dn + 1)) cl (fun _ => .null) rk wd tw pa pb := FeA_cg (FeA_kp (hkp_3 own own (fun _ => True) (fun _ _ => rfl) trivial) (fun _ _ => ⟨trivial, trivial⟩) hF7) (fun q hq => by by_cases m : q ∈ qs5; exact ((hn7 q).1 m).symm; rw [(hn7 q).2 m]; exact (hql5 q hq m).symm)
      have hB6 := U_pos (FA1 := (va_up FA ft (some (fe (FT dn))))) (ft1 := FT (dn + 1)) hF79 hk79 hG9 hH9 hft9 (by omega) (by omega) rfl (fun q hq => by unfold va_up; by_cases e : q = ft; (rw [if_pos e, e, hft9]); (rw [if_neg e]; exact hFA9 q (by omega))) hc
      obtain ⟨hP9, hD9⟩ := zq_part (cx := [(oc8 x (.ref sh) (.ref lw) (.ref ro) (.ref bq) (.ref bp) (.ref dq) (.ref dp) (.ref lv) (.ref sl) (nI (dn + 1)) (nI bs) ul 0), (oc10 sl mc9 (.ref ea) (nI T)), (oc7 sh (.ref fa) (nI (ft + 1))), (oq fa cF 200 (va_up FA ft (some (fe (FT dn)))))]) hP hD [0, 1, 2, 3] rfl rfl
      have hE9 : (([(oc8 x (.ref sh) (.ref lw) (.ref ro) (.ref bq) (.ref bp) (.ref dq) (.ref dp) (.ref lv) (.ref sl) (nI (dn + 1)) (nI bs) ul 0), (oc10 sl mc9 (.ref ea) (nI T)), (oc7 sh (.ref fa) (nI (ft + 1))), (oq fa cF 200 (va_up FA ft (some (fe (FT dn)))))] ++ va_pl Lp3 fp3) : va_W) = ([(oc8 x (.ref sh) (.ref lw) (.ref ro) (.ref bq) (.ref bp) (.ref dq) (.ref dp) (.ref lv) (.ref sl) (nI (dn + 1)) (nI bs) ul 0), (oc10 sl mc9 (.ref ea) (nI T)), (oc7 sh (.ref fa) (nI (FT (dn + 1)))), (oq fa cF 200 (va_up FA ft (some (fe (FT dn)))))] ++ va_pl Lp3 fp3) := by rw [show ft + 1 = FT (dn + 1) by omega]
      rw [hE9] at hP9 hD9
      rw [hQ9]
      exact W.iret (v := nI (dn + 1)) hx hb hr (fun t ht hW => ⟨⟨rfl, Lp3, fp3, (va_up FA ft (some (fe (FT dn)))), (hB6), by rw [ht]; exact hP9, hD9⟩, hS.F ht⟩) hS.2.2 dX10_redo_78
    · have c_4 : ((T : Nat) : Int) ≤ ((dn : Nat) : Int) := zc_nlt (nI_toInt b9_5) (nI_toInt b9_6) c_4
      exfalso; omega
set_option maxHeartbeats 4000000 in
set_option maxRecDepth 100000 in
theorem k_undo_r (l : Launch) (dC : Nat → ClassId) (dI : Nat → Nat → Nat) (cI cZ cF : ClassId) (sz : Nat) (x : Nat) (sh : Nat) (lw : Nat) (ro : Nat) (bq : Nat) (bp : Nat) (dq : Nat) (dp : Nat) (lv : Nat) (sl : Nat) (ul : Int32) (su : Int32) (bs : Nat) (dn : Nat) (heq : dn = bs) (hd5 : dn ≤ 512) : Met l yX10_undo (.code yX10_undo cX10_undo 2 (some .int) :: ws0) ({ frames := 1, cells := 0, slots := 0, locals := 21 } : Room) (va_Pc [.ref x] (zPre (dC, dI) classes (zTy cI cZ cF) [(oc8 x (.ref sh) (.ref lw) (.ref ro) (.ref bq) (.ref bp) (.ref dq) (.ref dp) (.ref lv) (.ref sl) (nI dn) (nI bs) ul su)] sz zXN)) (zQ (some (.int (-1))) (fun t => va_P (dC, dI) classes [(oc8 x (.ref sh) (.ref lw) (.ref ro) (.ref bq) (.ref bp) (.ref dq) (.ref dp) (.ref lv) (.ref sl) (nI dn) (nI bs) ul 8)] t.heap ∧ va_D (va_A [(oc8 x (.ref sh) (.ref lw) (.ref ro) (.ref bq) (.ref bp) (.ref dq) (.ref dp) (.ref lv) (.ref sl) (nI dn) (nI bs) ul su)] sz) [(oc8 x (.ref sh) (.ref lw) (.ref ro) (.ref bq) (.ref bp) (.ref dq) (.ref dp) (.ref lv) (.ref sl) (nI dn) (nI bs) ul 8)]) (va_A [(oc8 x (.ref sh) (.ref lw) (.ref ro) (.ref bq) (.ref bp) (.ref dq) (.ref dp) (.ref lv) (.ref sl) (nI dn) (nI bs) ul su)] sz)) 0 0 (va_A [(oc8 x (.ref sh) (.ref lw) (.ref ro) (.ref bq) (.ref bp) (.ref dq) (.ref dp) (.ref lv) (.ref sl) (nI dn) (nI bs) ul su)] sz) := by
  refine Met.ofW (cc := cX10_undo) (maxL := 2) (ret := (some .int)) rfl rfl ?_
  intro p e s m args below meth c s₁ B hml hv
  obtain ⟨rfl, hsz, hP, hK, hD0, hXN⟩ := hv
  have hx := B.exec
  have hb := B.bytes
  have hr := B.returns
  have hts0 := atoms_spec (ws := .code yX10_undo cX10_undo 2 (some .int) :: ws0) B.pre
  have hts : ∀ w9 ∈ ws0, w9.before ([.ref x] : List Value).toArray s = true := fun w9 h => hts0 w9 (List.mem_cons_of_mem _ h)
  have hown : s.vm.findClass "ScaleShop" = some m.cls := findClass_of_methodNamed B.named
  have hlocks := B.notSynchronized
  subst hsz
  have hD := hD0.self (sz := s.heap.size)
  clear hD0
  generalize hAe : va_A [(oc8 x (.ref sh) (.ref lw) (.ref ro) (.ref bq) (.ref bp) (.ref dq) (.ref dp) (.ref lv) (.ref sl) (nI dn) (nI bs) ul su)] s.heap.size = A at hD ⊢
  have hA : ∀ q : Nat, s.heap.size ≤ q → A q := fun q h => by rw [← hAe]; exact Or.inr h
  clear hAe
  have hS : va_S A s.heap s.heap [] := va_S.rf
  have hP : va_P (dC, dI) classes [(oc8 x (.ref sh) (.ref lw) (.ref ro) (.ref bq) (.ref bp) (.ref dq) (.ref dp) (.ref lv) (.ref sl) (nI dn) (nI bs) ul su)] s.heap := hP
  obtain ⟨Q9, hQ9⟩ : ∃ Q9 : State → Prop, Q9 = MQ below (zQ (some (.int (-1))) (fun t => va_P (dC, dI) classes [(oc8 x (.ref sh) (.ref lw) (.ref ro) (.ref bq) (.ref bp) (.ref dq) (.ref dp) (.ref lv) (.ref sl) (nI dn) (nI bs) ul 8)] t.heap ∧ va_D A [(oc8 x (.ref sh) (.ref lw) (.ref ro) (.ref bq) (.ref bp) (.ref dq) (.ref dp) (.ref lv) (.ref sl) (nI dn) (nI bs) ul 8)]) A) ([.ref x] : List Value).toArray s 0 0 A := ⟨_, rfl⟩
  rw [← hQ9]
  have hl := lv_entry ([.ref x]) (n := 2) (Nat.le_of_ble_eq_true rfl)
  rw [lg_entry_eq]
  generalize (lg_sl ([.ref x]) ++ List.replicate (2 - (lg_sl ([.ref x])).length) Slot.unset).toArray = ls at hl ⊢
  have hl : lv_has ls 2 [(0, .ref x)] := hl
  refine lv_aload_n hx hb dX10_undo_0 rfl (lv_at hl 0 rfl) ?_
  refine va_get (D := (dC, dI)) (ci := 8) (v := .int (nI dn)) (C := RX10) (T := TX10) (N := 13) hx hb hts inX10 hown hK hP 0 rfl rfl 9 (Nat.le_of_ble_eq_true rfl) (hts _ mw_318) (fun _ h9 => h9) rfl dX10_undo_1 ?_
  refine lv_aload_n hx hb dX10_undo_4 rfl (lv_at hl 0 rfl) ?_
  refine va_get (D := (dC, dI)) (ci := 8) (v := .int (nI bs)) (C := RX10) (T := TX10) (N := 13) hx hb hts inX10 hown hK hP 0 rfl rfl 10 (Nat.le_of_ble_eq_true rfl) (hts _ mw_319) (fun _ h9 => h9) rfl dX10_undo_5 ?_
  have b9_2 : dn < 2147483648 := by omega
  have b9_3 : bs < 2147483648 := by omega
  refine lv_icmp_le (tgt := 25) hx hb dX10_undo_8 rfl (fun c_1 => ?_) (fun c_1 => ?_)
  · have c_1 : ((dn : Nat) : Int) ≤ ((bs : Nat) : Int) := zc_le (nI_toInt b9_2) (nI_toInt b9_3) c_1
    refine lv_aload_n hx hb dX10_undo_25 rfl (lv_at hl 0 rfl) ?_
    refine lv_bipush (v := 8) hx hb dX10_undo_26 rfl ?_
    obtain ⟨hPc, hDc, hFc⟩ := zc_sub (wc := [(oc8 x (.ref sh) (.ref lw) (.ref ro) (.ref bq) (.ref bp) (.ref dq) (.ref dp) (.ref lv) (.ref sl) (nI dn) (nI bs) ul su)]) hP hD hS hA [0] rfl rfl
    refine zcall (st1 := [.int (-1)]) (va_runV (As := [.int 8]) (rest := []) ⟨hx, hb, hml, hown, hts⟩ (k_refuse_8 l dC dI cI cZ cF s.heap.size x sh lw ro bq bp dq dp lv sl (nI bs) ul su (nI dn) ) (csV_95 hts rfl rfl ⟨Nat.le_of_ble_eq_true rfl, Nat.le_of_ble_eq_true rfl⟩) (zPV2 (q0 := 0) (ci := 8) hPc hDc hK hXN rfl rfl) rfl rfl hl.1 rfl (lv_room (Nat.le_of_ble_eq_true rfl)) dX10_undo_28 ⟨Nat.le_of_ble_eq_true rfl, Nat.le_of_ble_eq_true rfl⟩) hS hFc hFc rfl (fun t H locs ht hB hk1 hS => ?_)
    obtain ⟨hP1, hD1⟩ := hB
    rw [ht] at hP1
    obtain ⟨hP, hD⟩ := zk (W2 := [(oc8 x (.ref sh) (.ref lw) (.ref ro) (.ref bq) (.ref bp) (.ref dq) (.ref dp) (.ref lv) (.ref sl) (nI dn) (nI bs) ul 8)]) hP hD [0] [] [] [0] [0] 1 rfl rfl rfl rfl rfl rfl rfl rfl rfl hk1 hFc hP1 hD1
    clear hk1 hPc hDc hFc hP1 hD1 ht
    obtain ⟨hP9, hD9⟩ := zq_sub (wc := [(oc8 x (.ref sh) (.ref lw) (.ref ro) (.ref bq) (.ref bp) (.ref dq) (.ref dp) (.ref lv) (.ref sl) (nI dn) (nI bs) ul 8)]) hP hD [0] rfl rfl
    rw [hQ9]
    exact W.iret (v := (-1)) hx hb hr (fun t ht hW => ⟨⟨rfl, by rw [ht]; exact hP9, hD9⟩, hS.F ht⟩) hS.2.2 dX10_undo_31
  · have c_1 : ((bs : Nat) : Int) < ((dn : Nat) : Int) := zc_nle (nI_toInt b9_2) (nI_toInt b9_3) c_1
    exfalso; omega
set_option maxHeartbeats 4000000 in
set_option maxRecDepth 100000 in
theorem k_redo_r (l : Launch) (dC : Nat → ClassId) (dI : Nat → Nat → Nat) (cI cZ cF : ClassId) (sz : Nat) (x : Nat) (sh : Nat) (lw : Nat) (ro : Nat) (bq : Nat) (bp : Nat) (dq : Nat) (dp : Nat) (lv : Nat) (sl : Nat) (sd : Int32) (ul : Int32) (su : Int32) (ea : Nat) (dn : Nat) (T : Nat) (mc9 : Int32) (heq : dn = T) (hd5 : dn ≤ 512) : Met l yX10_redo (.code yX10_redo cX10_redo 2 (some .int) :: ws0) ({ frames := 1, cells := 0, slots := 0, locals := 21 } : Room) (va_Pc [.ref x] (zPre (dC, dI) classes (zTy cI cZ cF) [(oc8 x (.ref sh) (.ref lw) (.ref ro) (.ref bq) (.ref bp) (.ref dq) (.ref dp) (.ref lv) (.ref sl) (nI dn) sd ul su), (oc10 sl mc9 (.ref ea) (nI T))] sz zXN)) (zQ (some (.int (-1))) (fun t => va_P (dC, dI) classes [(oc8 x (.ref sh) (.ref lw) (.ref ro) (.ref bq) (.ref bp) (.ref dq) (.ref dp) (.ref lv) (.ref sl) (nI dn) sd ul 8), (oc10 sl mc9 (.ref ea) (nI T))] t.heap ∧ va_D (va_A [(oc8 x (.ref sh) (.ref lw) (.ref ro) (.ref bq) (.ref bp) (.ref dq) (.ref dp) (.ref lv) (.ref sl) (nI dn) sd ul su), (oc10 sl mc9 (.ref ea) (nI T))] sz) [(oc8 x (.ref sh) (.ref lw) (.ref ro) (.ref bq) (.ref bp) (.ref dq) (.ref dp) (.ref lv) (.ref sl) (nI dn) sd ul 8), (oc10 sl mc9 (.ref ea) (nI T))]) (va_A [(oc8 x (.ref sh) (.ref lw) (.ref ro) (.ref bq) (.ref bp) (.ref dq) (.ref dp) (.ref lv) (.ref sl) (nI dn) sd ul su), (oc10 sl mc9 (.ref ea) (nI T))] sz)) 0 0 (va_A [(oc8 x (.ref sh) (.ref lw) (.ref ro) (.ref bq) (.ref bp) (.ref dq) (.ref dp) (.ref lv) (.ref sl) (nI dn) sd ul su), (oc10 sl mc9 (.ref ea) (nI T))] sz) := by
  refine Met.ofW (cc := cX10_redo) (maxL := 2) (ret := (some .int)) rfl rfl ?_
  intro p e s m args below meth c s₁ B hml hv
  obtain ⟨rfl, hsz, hP, hK, hD0, hXN⟩ := hv
  have hx := B.exec
  have hb := B.bytes
  have hr := B.returns
  have hts0 := atoms_spec (ws := .code yX10_redo cX10_redo 2 (some .int) :: ws0) B.pre
  have hts : ∀ w9 ∈ ws0, w9.before ([.ref x] : List Value).toArray s = true := fun w9 h => hts0 w9 (List.mem_cons_of_mem _ h)
  have hown : s.vm.findClass "ScaleShop" = some m.cls := findClass_of_methodNamed B.named
  have hlocks := B.notSynchronized
  subst hsz
  have hD := hD0.self (sz := s.heap.size)
  clear hD0
  generalize hAe : va_A [(oc8 x (.ref sh) (.ref lw) (.ref ro) (.ref bq) (.ref bp) (.ref dq) (.ref dp) (.ref lv) (.ref sl) (nI dn) sd ul su), (oc10 sl mc9 (.ref ea) (nI T))] s.heap.size = A at hD ⊢
  have hA : ∀ q : Nat, s.heap.size ≤ q → A q := fun q h => by rw [← hAe]; exact Or.inr h
  clear hAe
  have hS : va_S A s.heap s.heap [] := va_S.rf
  have hP : va_P (dC, dI) classes [(oc8 x (.ref sh) (.ref lw) (.ref ro) (.ref bq) (.ref bp) (.ref dq) (.ref dp) (.ref lv) (.ref sl) (nI dn) sd ul su), (oc10 sl mc9 (.ref ea) (nI T))] s.heap := hP
  obtain ⟨Q9, hQ9⟩ : ∃ Q9 : State → Prop, Q9 = MQ below (zQ (some (.int (-1))) (fun t => va_P (dC, dI) classes [(oc8 x (.ref sh) (.ref lw) (.ref ro) (.ref bq) (.ref bp) (.ref dq) (.ref dp) (.ref lv) (.ref sl) (nI dn) sd ul 8), (oc10 sl mc9 (.ref ea) (nI T))] t.heap ∧ va_D A [(oc8 x (.ref sh) (.ref lw) (.ref ro) (.ref bq) (.ref bp) (.ref dq) (.ref dp) (.ref lv) (.ref sl) (nI dn) sd ul 8), (oc10 sl mc9 (.ref ea) (nI T))]) A) ([.ref x] : List Value).toArray s 0 0 A := ⟨_, rfl⟩
  rw [← hQ9]
  have hl := lv_entry ([.ref x]) (n := 2) (Nat.le_of_ble_eq_true rfl)
  rw [lg_entry_eq]
  generalize (lg_sl ([.ref x]) ++ List.replicate (2 - (lg_sl ([.ref x])).length) Slot.unset).toArray = ls at hl ⊢
  have hl : lv_has ls 2 [(0, .ref x)] := hl
  refine lv_aload_n hx hb dX10_redo_0 rfl (lv_at hl 0 rfl) ?_
  refine va_get (D := (dC, dI)) (ci := 8) (v := .int (nI dn)) (C := RX10) (T := TX10) (N := 13) hx hb hts inX10 hown hK hP 0 rfl rfl 9 (Nat.le_of_ble_eq_true rfl) (hts _ mw_318) (fun _ h9 => h9) rfl dX10_redo_1 ?_
  refine lv_aload_n hx hb dX10_redo_4 rfl (lv_at hl 0 rfl) ?_
  refine va_get (D := (dC, dI)) (ci := 8) (v := .ref sl) (C := RX10) (T := TX10) (N := 13) hx hb hts inX10 hown hK hP 0 rfl rfl 8 (Nat.le_of_ble_eq_true rfl) (hts _ mw_317) (fun _ h9 => h9) rfl dX10_redo_5 ?_
  obtain ⟨hPc, hDc, hFc⟩ := zc_sub (wc := [(oc10 sl mc9 (.ref ea) (nI T))]) hP hD hS hA [1] rfl rfl
  refine zcall (st1 := [.int (nI T), .int (nI dn)]) (va_runV (As := []) (rest := [.int (nI dn)]) ⟨hx, hb, hml, hown, hts⟩ (k_AL_size l dC dI cI cZ cF s.heap.size sl ea T mc9 ) (csV_90 hts rfl rfl ⟨Nat.le_of_ble_eq_true rfl, Nat.le_of_ble_eq_true rfl⟩) (zPV2 (q0 := 0) (ci := 10) hPc hDc hK hXN rfl rfl) rfl rfl hl.1 rfl (lv_room (Nat.le_of_ble_eq_true rfl)) dX10_redo_8 ⟨Nat.le_of_ble_eq_true rfl, Nat.le_of_ble_eq_true rfl⟩) hS hFc hFc rfl (fun t H locs ht hB hk1 hS => ?_)
  obtain ⟨hP1, hD1⟩ := hB
  rw [ht] at hP1
  obtain ⟨hP, hD⟩ := zk (W2 := [(oc8 x (.ref sh) (.ref lw) (.ref ro) (.ref bq) (.ref bp) (.ref dq) (.ref dp) (.ref lv) (.ref sl) (nI dn) sd ul su), (oc10 sl mc9 (.ref ea) (nI T))]) hP hD [1] [0] [0] [1] [0, 1] 2 rfl rfl rfl rfl rfl rfl rfl rfl rfl hk1 hFc hP1 hD1
  clear hk1 hPc hDc hFc hP1 hD1 ht
  have b9_2 : dn < 2147483648 := by omega
  have b9_3 : T < 2147483648 := by omega
  refine lv_icmp_lt (tgt := 21) hx hb dX10_redo_11 rfl (fun c_1 => ?_) (fun c_1 => ?_)
  · have c_1 : ((dn : Nat) : Int) < ((T : Nat) : Int) := zc_lt (nI_toInt b9_2) (nI_toInt b9_3) c_1
    exfalso; omega
  · have c_1 : ((T : Nat) : Int) ≤ ((dn : Nat) : Int) := zc_nlt (nI_toInt b9_2) (nI_toInt b9_3) c_1
    refine lv_aload_n hx hb dX10_redo_14 rfl (lv_at hl 0 rfl) ?_
    refine lv_bipush (v := 8) hx hb dX10_redo_15 rfl ?_
    obtain ⟨hPc, hDc, hFc⟩ := zc_sub (wc := [(oc8 x (.ref sh) (.ref lw) (.ref ro) (.ref bq) (.ref bp) (.ref dq) (.ref dp) (.ref lv) (.ref sl) (nI dn) sd ul su)]) hP hD hS hA [0] rfl rfl
    refine zcall (st1 := [.int (-1)]) (va_runV (As := [.int 8]) (rest := []) ⟨hx, hb, hml, hown, hts⟩ (k_refuse_8 l dC dI cI cZ cF H.size x sh lw ro bq bp dq dp lv sl sd ul su (nI dn) ) (csV_95 hts rfl rfl ⟨Nat.le_of_ble_eq_true rfl, Nat.le_of_ble_eq_true rfl⟩) (zPV2 (q0 := 0) (ci := 8) hPc hDc hK hXN rfl rfl) rfl rfl hl.1 rfl (lv_room (Nat.le_of_ble_eq_true rfl)) dX10_redo_17 ⟨Nat.le_of_ble_eq_true rfl, Nat.le_of_ble_eq_true rfl⟩) hS hFc hFc rfl (fun t H locs ht hB hk1 hS => ?_)
    obtain ⟨hP1, hD1⟩ := hB
    rw [ht] at hP1
    obtain ⟨hP, hD⟩ := zk (W2 := [(oc8 x (.ref sh) (.ref lw) (.ref ro) (.ref bq) (.ref bp) (.ref dq) (.ref dp) (.ref lv) (.ref sl) (nI dn) sd ul 8), (oc10 sl mc9 (.ref ea) (nI T))]) hP hD [0] [1] [1] [0] [1, 0] 2 rfl rfl rfl rfl rfl rfl rfl rfl rfl hk1 hFc hP1 hD1
    clear hk1 hPc hDc hFc hP1 hD1 ht
    obtain ⟨hP9, hD9⟩ := zq_sub (wc := [(oc8 x (.ref sh) (.ref lw) (.ref ro) (.ref bq) (.ref bp) (.ref dq) (.ref dp) (.ref lv) (.ref sl) (nI dn) sd ul 8), (oc10 sl mc9 (.ref ea) (nI T))]) hP hD [0, 1] rfl rfl
    rw [hQ9]
    exact W.iret (v := (-1)) hx hb hr (fun t ht hW => ⟨⟨rfl, by rw [ht]; exact hP9, hD9⟩, hS.F ht⟩) hS.2.2 dX10_redo_20
end
section
/-! the law's words over a row that stands for the corners -/
section
variable {ft : Nat} {st tn kd mn cx cy : Nat → Int32} {f0 n nd : Nat} {X Y A B P Q : Nat → Int32} {rg rd k9 : Int32}
theorem apMv_cx (h1 : 1 ≤ n) (h : ∀ j, j < n → X j = A j ∧ Y j = B j) {q : Nat} : apMv mn cx cy n X Y nd P Q q = apMv mn cx cy n A B nd P Q q := by
  have e1 := (mnI_cg (z := (A 0).toInt) (fun j hj => (h j hj).1) n (Nat.le_refl _)); have e2 := (mnI_cg (z := (B 0).toInt) (fun j hj => (h j hj).2) n (Nat.le_refl _))
  unfold apMv
  rw [(h 0 (by omega)).1, (h 0 (by omega)).2, e1.1, e1.2, e2.1, e2.2]
theorem swR_cx (h : ∀ j, j < n → X j = A j ∧ Y j = B j) {x y : Int} {i : Nat} (hi : i < n) : swR n X Y P Q x y i = swR n A B P Q x y i := by
  have h1 := h i hi; have h2 := h _ (nxt_lt (n := n) (i := i) (by omega))
  unfold swR spr stay
  rw [h1.1, h1.2, h2.1, h2.2]
theorem alM_cx (h1 : 1 ≤ n) (h : ∀ j, j < n → X j = A j ∧ Y j = B j) : alM ft st tn kd mn cx cy f0 n X Y rg nd P Q rd k9 ↔ alM ft st tn kd mn cx cy f0 n A B rg nd P Q rd k9 := by
  unfold alM
  refine and_congr_right fun _ => and_congr_right fun _ => forall_congr' fun q => imp_congr_right fun _ => imp_congr_right fun _ => imp_congr_right fun _ => or_congr (by rw [apMv_cx h1 h]) (and_congr (asb_cx h1 h) (not_congr (exists_congr fun i => and_congr_right fun hi => exists_congr fun k => and_congr_right fun _ => by rw [swR_cx h (by have := edg_le n rg; omega)])))
theorem alW_cx (h1 : 1 ≤ n) (h : ∀ j, j < n → X j = A j ∧ Y j = B j) : alW ft st tn kd mn cx cy f0 n X Y rg nd P Q rd k9 ↔ alW ft st tn kd mn cx cy f0 n A B rg nd P Q rd k9 := by
  unfold alW
  refine and_congr_right fun _ => and_congr_right fun _ => forall_congr' fun q => imp_congr_right fun _ => imp_congr_right fun _ => imp_congr_right fun _ => or_congr (by rw [apMv_cx h1 h]) (and_congr (asb_cx h1 h) ?_)
  rw [(h 0 (by omega)).1, (h 0 (by omega)).2]
theorem alB_cx (h1 : 1 ≤ n) (h : ∀ j, j < n → X j = A j ∧ Y j = B j) : alB ft st tn kd mn cx cy f0 n X Y rg nd P Q rd ↔ alB ft st tn kd mn cx cy f0 n A B rg nd P Q rd := by
  unfold alB
  refine and_congr_right fun _ => and_congr_right fun _ => forall_congr' fun q => imp_congr_right fun _ => imp_congr_right fun _ => imp_congr_right fun _ => or_congr (by rw [apMv_cx h1 h]) (asb_cx h1 h)
end
theorem mv_alk {n : Nat} {VX VY C D P Q X Y : Nat → Int32} (hv : ∀ k, k < n → P k = VX k ∧ Q k = VY k) (hc : ∀ k, k < n → X k = C k ∧ Y k = D k) : (n = n ∧ ∀ k, k < n → (P k).toInt = (X k).toInt ∧ (Q k).toInt = (Y k).toInt) ↔ ¬ mvd n VX VY C D := by
  constructor
  · rintro ⟨_, h⟩ ⟨k, hk, g⟩
    refine g ⟨?_, ?_⟩
    · rw [← (hv k hk).1, ← (hc k hk).1]; exact Int32.toInt_inj.mp (h k hk).1
    · rw [← (hv k hk).2, ← (hc k hk).2]; exact Int32.toInt_inj.mp (h k hk).2
  · intro h
    refine ⟨rfl, fun k hk => ?_⟩
    have g := Classical.byContradiction fun g => h ⟨k, hk, g⟩
    rw [(hv k hk).1, (hv k hk).2, (hc k hk).1, (hc k hk).2, g.1, g.2]; exact ⟨rfl, rfl⟩
theorem sm_hv {kd : Int} {n : Nat} {P X C : Nat → Int32} {k : Nat} (hk : k < n) (hc : ∀ k, k < n → X k = C k) (h : P k = smv (pI ((rgK kd).toInt = 0 ∧ (k = 0 ∨ k = n - 1))) (X (prv n k)) (X k) (X (nxt n k))) : P k = smv (pI (¬ 5 ≤ kd ∧ (k = 0 ∨ k = n - 1))) (C (prv n k)) (C k) (C (nxt n k)) := by
  rw [h, hc _ (prv_lt (n := n) (i := k) hk), hc k hk, hc _ (nxt_lt (n := n) (i := k) (by omega))]
  congr 1
  exact zp_iff (and_congr_left fun _ => rgK_0 _)
theorem sh_hv {kd : Int} {n kk rr : Nat} {dx : Int32} {P X C : Nat → Int32} {k : Nat} (hk : k < n) (hc : ∀ k, k < n → X k = C k) (h : P k = shV kd n kk dx rr X k) : P k = shV kd n kk dx rr C k := by
  rw [h]; unfold shV; rw [hc k hk]
end
section
set_option maxHeartbeats 4000000 in
set_option maxRecDepth 100000 in
theorem k_smooth_y (l : Launch) (dC : Nat → ClassId) (dI : Nat → Nat → Nat) (cI cZ cF : ClassId) (sz : Nat) (cO : ClassId) (e0 : Nat) (mi : Nat) (x : Nat) (sh : Nat) (lw : Nat) (ro : Nat) (bq : Nat) (bp : Nat) (dq : Nat) (dp : Nat) (lv : Nat) (sl : Nat) (sd : Int32) (ul : Int32) (su : Int32) (ea : Nat) (mc9 : Int32) (fa : Nat) (FA : Nat → Option Nat) (bs : Nat) (dn : Nat) (T : Nat) (ft : Nat) (FT : Nat → Nat) (V : Nat → Nat → Nat → Int32) (VX : Nat → Nat → Int32) (VY : Nat → Nat → Int32) (tn : Nat → Int32) (rk : Nat → Int32) (wd : Nat → Int32) (tw : Nat → Int32) (pa : Nat → Int32) (pb : Nat → Int32) (wh : Nat → Int32) (of9 : Nat → Int32) (we : Nat → Int32) (kd : Nat → Int32) (st : Nat → Int32) (gb : Nat → Int32) (it : Nat → Int32) (mn : Nat → Int32) (cx : Nat → Int32) (cy : Nat → Int32) (L : List Nat) (f : Nat → va_E) (f0 : Nat) (dr : Nat) (tg : Nat) (wy : Nat) (br : Nat) (bo : Nat) (aa : Nat) (tx : Nat) (ty : Nat) (nt : Nat) (TX : Nat → Int32) (TY : Nat → Int32) (rt : Int32) (wx : Nat) (wz : Nat) (nw : Nat) (WX : Nat → Int32) (WY : Nat → Int32) (rw : Int32) (dx : Nat) (dy : Nat) (nd : Nat) (cd : Nat) (P : Nat → Int32) (Q : Nat → Int32) (rd : Int32) (b1 : Int32) (b2 : Int32) (b3 : Int32) (b4 : Int32) (b5 : Int32) (b6 : Int32) (b7 : Int32) (b8 : Int32) (hB : shB cI cO L f e0 FA ea bs dn T ft FT V VX VY tn rk wd tw pa pb wh of9 we kd st gb it mn cx cy) (hd5 : dn + 1 ≤ 512) (hf0 : f0 < ft) (htn : (tn f0).toInt = 0) (hst : (st f0).toInt = 1) (hwf : ∀ q, lvF ft st tn q → wfM mn cx cy q) (hkn : okN ft st tn kd mn) (hsm : mSm (kd f0).toInt (nN (mn f0)) (cF40 cx f0) (cF40 cy f0)) (hcd : 40 ≤ cd ∧ cd ≤ 1000) (hkd : 1 ≤ (kd f0).toInt ∧ (kd f0).toInt ≤ 5) (hlaw : lwM ft st tn kd mn cx cy f0 (nN (mn f0)) (fun i => smv (pI (¬ 5 ≤ (kd f0).toInt ∧ (i = 0 ∨ i = (nN (mn f0)) - 1))) (cF40 cx f0 (prv (nN (mn f0)) i)) (cF40 cx f0 i) (cF40 cx f0 (nxt (nN (mn f0)) i))) (fun i => smv (pI (¬ 5 ≤ (kd f0).toInt ∧ (i = 0 ∨ i = (nN (mn f0)) - 1))) (cF40 cy f0 (prv (nN (mn f0)) i)) (cF40 cy f0 i) (cF40 cy f0 (nxt (nN (mn f0)) i)))) (hmv : mvd (nN (mn f0)) (fun i => smv (pI (¬ 5 ≤ (kd f0).toInt ∧ (i = 0 ∨ i = (nN (mn f0)) - 1))) (cF40 cx f0 (prv (nN (mn f0)) i)) (cF40 cx f0 i) (cF40 cx f0 (nxt (nN (mn f0)) i))) (fun i => smv (pI (¬ 5 ≤ (kd f0).toInt ∧ (i = 0 ∨ i = (nN (mn f0)) - 1))) (cF40 cy f0 (prv (nN (mn f0)) i)) (cF40 cy f0 i) (cF40 cy f0 (nxt (nN (mn f0)) i))) (cF40 cx f0) (cF40 cy f0)) : Met l yX10_smooth (.code yX10_smooth cX10_smooth 4 (some .boolean) :: ws0) ({ frames := 9, cells := ft + 6, slots := 4 * ft + 2 * nN (mn f0) + 815, locals := 205 } : Room) (va_Pc [.ref x, .int (nI f0)] (zPre (dC, dI) classes (zTyO cI cZ cF cO) ([(oc8 x (.ref sh) (.ref lw) (.ref ro) (.ref bq) (.ref bp) (.ref dq) (.ref dp) (.ref lv) (.ref sl) (nI dn) sd ul su), (oc10 sl mc9 (.ref ea) (nI T)), (oc3 lw (.ref dr) (.ref tg) (.ref wy) (.ref br) (.ref bo) (.ref aa)), (oc6 tg (.ref tx) (.ref ty) (nI nt) rt), (oa tx cI 3 TX), (oa ty cI 3 TY), (oc6 wy (.ref wx) (.ref wz) (nI nw) rw), (oa wx cI 2 WX), (oa wz cI 2 WY), (oc6 dr (.ref dx) (.ref dy) (nI nd) rd), (oa dx cI cd P), (oa dy cI cd Q), (oc0 br b1 b2 b3 b4), (oc0 bo b5 b6 b7 b8), (oc7 sh (.ref fa) (nI ft)), (oq fa cF 200 FA)] ++ va_pl L f) sz (zXL e0 mi (va_A ([(oc8 x (.ref sh) (.ref lw) (.ref ro) (.ref bq) (.ref bp) (.ref dq) (.ref dp) (.ref lv) (.ref sl) (nI dn) sd ul su), (oc10 sl mc9 (.ref ea) (nI T)), (oc3 lw (.ref dr) (.ref tg) (.ref wy) (.ref br) (.ref bo) (.ref aa)), (oc6 tg (.ref tx) (.ref ty) (nI nt) rt), (oa tx cI 3 TX), (oa ty cI 3 TY), (oc6 wy (.ref wx) (.ref wz) (nI nw) rw), (oa wx cI 2 WX), (oa wz cI 2 WY), (oc6 dr (.ref dx) (.ref dy) (nI nd) rd), (oa dx cI cd P), (oa dy cI cd Q), (oc0 br b1 b2 b3 b4), (oc0 bo b5 b6 b7 b8), (oc7 sh (.ref fa) (nI ft)), (oq fa cF 200 FA)] ++ va_pl L f) sz)))) (zQ (some (.int 1)) (fun t => ∃ (mc1 : Int32), ∃ (L1 : List Nat), ∃ (f1 : Nat → va_E), ∃ (ea1 : Nat), ∃ (nt1 : Nat), ∃ (TX1 : Nat → Int32), ∃ (TY1 : Nat → Int32), ∃ (rt1 : Int32), ∃ (nw1 : Nat), ∃ (WX1 : Nat → Int32), ∃ (WY1 : Nat → Int32), ∃ (rw1 : Int32), ∃ (d5 : Int32), ∃ (d6 : Int32), ∃ (d7 : Int32), ∃ (d8 : Int32), ∃ (e5 : Int32), ∃ (e6 : Int32), ∃ (e7 : Int32), ∃ (e8 : Int32), ∃ (P1 : Nat → Int32), ∃ (Q1 : Nat → Int32), (shB cI cO L1 f1 e0 FA ea1 bs (dn + 1) (dn + 1) ft (upN FT (dn + 1) ft) (upN V (dn + 1) (vC kd st gb it mn)) (upN VX (dn + 1) (fgX f0 (nN (mn f0)) (fun i => smv (pI (¬ 5 ≤ (kd f0).toInt ∧ (i = 0 ∨ i = (nN (mn f0)) - 1))) (cF40 cx f0 (prv (nN (mn f0)) i)) (cF40 cx f0 i) (cF40 cx f0 (nxt (nN (mn f0)) i))) cx)) (upN VY (dn + 1) (fgX f0 (nN (mn f0)) (fun i => smv (pI (¬ 5 ≤ (kd f0).toInt ∧ (i = 0 ∨ i = (nN (mn f0)) - 1))) (cF40 cy f0 (prv (nN (mn f0)) i)) (cF40 cy f0 i) (cF40 cy f0 (nxt (nN (mn f0)) i))) cy)) tn rk wd tw pa pb (upd wh (dn + 1) (2 : Int32)) (upd of9 (dn + 1) (nI f0)) (upd we (dn + 1) (0 : Int32)) kd st gb it mn (fgX f0 (nN (mn f0)) (fun i => smv (pI (¬ 5 ≤ (kd f0).toInt ∧ (i = 0 ∨ i = (nN (mn f0)) - 1))) (cF40 cx f0 (prv (nN (mn f0)) i)) (cF40 cx f0 i) (cF40 cx f0 (nxt (nN (mn f0)) i))) cx) (fgX f0 (nN (mn f0)) (fun i => smv (pI (¬ 5 ≤ (kd f0).toInt ∧ (i = 0 ∨ i = (nN (mn f0)) - 1))) (cF40 cy f0 (prv (nN (mn f0)) i)) (cF40 cy f0 i) (cF40 cy f0 (nxt (nN (mn f0)) i))) cy)) ∧ va_P (dC, dI) classes ([(oc8 x (.ref sh) (.ref lw) (.ref ro) (.ref bq) (.ref bp) (.ref dq) (.ref dp) (.ref lv) (.ref sl) (nI (dn + 1)) sd ul 0), (oc10 sl mc1 (.ref ea1) (nI (dn + 1))), (oc3 lw (.ref dr) (.ref tg) (.ref wy) (.ref br) (.ref bo) (.ref aa)), (oc6 tg (.ref tx) (.ref ty) (nI nt1) rt1), (oa tx cI 3 TX1), (oa ty cI 3 TY1), (oc6 wy (.ref wx) (.ref wz) (nI nw1) rw1), (oa wx cI 2 WX1), (oa wz cI 2 WY1), (oc6 dr (.ref dx) (.ref dy) (nI (nN (mn f0))) (rgK (kd f0).toInt)), (oa dx cI cd P1), (oa dy cI cd Q1), (oc0 br d5 d6 d7 d8), (oc0 bo e5 e6 e7 e8), (oc7 sh (.ref fa) (nI ft)), (oq fa cF 200 FA)] ++ va_pl L1 f1) t.heap ∧ va_D (va_A ([(oc8 x (.ref sh) (.ref lw) (.ref ro) (.ref bq) (.ref bp) (.ref dq) (.ref dp) (.ref lv) (.ref sl) (nI dn) sd ul su), (oc10 sl mc9 (.ref ea) (nI T)), (oc3 lw (.ref dr) (.ref tg) (.ref wy) (.ref br) (.ref bo) (.ref aa)), (oc6 tg (.ref tx) (.ref ty) (nI nt) rt), (oa tx cI 3 TX), (oa ty cI 3 TY), (oc6 wy (.ref wx) (.ref wz) (nI nw) rw), (oa wx cI 2 WX), (oa wz cI 2 WY), (oc6 dr (.ref dx) (.ref dy) (nI nd) rd), (oa dx cI cd P), (oa dy cI cd Q), (oc0 br b1 b2 b3 b4), (oc0 bo b5 b6 b7 b8), (oc7 sh (.ref fa) (nI ft)), (oq fa cF 200 FA)] ++ va_pl L f) sz) ([(oc8 x (.ref sh) (.ref lw) (.ref ro) (.ref bq) (.ref bp) (.ref dq) (.ref dp) (.ref lv) (.ref sl) (nI (dn + 1)) sd ul 0), (oc10 sl mc1 (.ref ea1) (nI (dn + 1))), (oc3 lw (.ref dr) (.ref tg) (.ref wy) (.ref br) (.ref bo) (.ref aa)), (oc6 tg (.ref tx) (.ref ty) (nI nt1) rt1), (oa tx cI 3 TX1), (oa ty cI 3 TY1), (oc6 wy (.ref wx) (.ref wz) (nI nw1) rw1), (oa wx cI 2 WX1), (oa wz cI 2 WY1), (oc6 dr (.ref dx) (.ref dy) (nI (nN (mn f0))) (rgK (kd f0).toInt)), (oa dx cI cd P1), (oa dy cI cd Q1), (oc0 br d5 d6 d7 d8), (oc0 bo e5 e6 e7 e8), (oc7 sh (.ref fa) (nI ft)), (oq fa cF 200 FA)] ++ va_pl L1 f1)) (va_A ([(oc8 x (.ref sh) (.ref lw) (.ref ro) (.ref bq) (.ref bp) (.ref dq) (.ref dp) (.ref lv) (.ref sl) (nI dn) sd ul su), (oc10 sl mc9 (.ref ea) (nI T)), (oc3 lw (.ref dr) (.ref tg) (.ref wy) (.ref br) (.ref bo) (.ref aa)), (oc6 tg (.ref tx) (.ref ty) (nI nt) rt), (oa tx cI 3 TX), (oa ty cI 3 TY), (oc6 wy (.ref wx) (.ref wz) (nI nw) rw), (oa wx cI 2 WX), (oa wz cI 2 WY), (oc6 dr (.ref dx) (.ref dy) (nI nd) rd), (oa dx cI cd P), (oa dy cI cd Q), (oc0 br b1 b2 b3 b4), (oc0 bo b5 b6 b7 b8), (oc7 sh (.ref fa) (nI ft)), (oq fa cF 200 FA)] ++ va_pl L f) sz)) (ft + 6) (4 * ft + 2 * nN (mn f0) + 815) (va_A ([(oc8 x (.ref sh) (.ref lw) (.ref ro) (.ref bq) (.ref bp) (.ref dq) (.ref dp) (.ref lv) (.ref sl) (nI dn) sd ul su), (oc10 sl mc9 (.ref ea) (nI T)), (oc3 lw (.ref dr) (.ref tg) (.ref wy) (.ref br) (.ref bo) (.ref aa)), (oc6 tg (.ref tx) (.ref ty) (nI nt) rt), (oa tx cI 3 TX), (oa ty cI 3 TY), (oc6 wy (.ref wx) (.ref wz) (nI nw) rw), (oa wx cI 2 WX), (oa wz cI 2 WY), (oc6 dr (.ref dx) (.ref dy) (nI nd) rd), (oa dx cI cd P), (oa dy cI cd Q), (oc0 br b1 b2 b3 b4), (oc0 bo b5 b6 b7 b8), (oc7 sh (.ref fa) (nI ft)), (oq fa cF 200 FA)] ++ va_pl L f) sz) := by
  refine Met.ofW (cc := cX10_smooth) (maxL := 4) (ret := (some .boolean)) rfl rfl ?_
  intro p e s m args below meth c s₁ B hml hv
  obtain ⟨rfl, hsz, hP, hK, hD0, hXL⟩ := hv
  have hx := B.exec
  have hb := B.bytes
  have hr := B.returns
  have hts0 := atoms_spec (ws := .code yX10_smooth cX10_smooth 4 (some .boolean) :: ws0) B.pre
  have hts : ∀ w9 ∈ ws0, w9.before ([.ref x, .int (nI f0)] : List Value).toArray s = true := fun w9 h => hts0 w9 (List.mem_cons_of_mem _ h)
  have hown : s.vm.findClass "ScaleShop" = some m.cls := findClass_of_methodNamed B.named
  have hlocks := B.notSynchronized
  subst hsz
  have hD := hD0.self (sz := s.heap.size)
  clear hD0
  generalize hAe : va_A ([(oc8 x (.ref sh) (.ref lw) (.ref ro) (.ref bq) (.ref bp) (.ref dq) (.ref dp) (.ref lv) (.ref sl) (nI dn) sd ul su), (oc10 sl mc9 (.ref ea) (nI T)), (oc3 lw (.ref dr) (.ref tg) (.ref wy) (.ref br) (.ref bo) (.ref aa)), (oc6 tg (.ref tx) (.ref ty) (nI nt) rt), (oa tx cI 3 TX), (oa ty cI 3 TY), (oc6 wy (.ref wx) (.ref wz) (nI nw) rw), (oa wx cI 2 WX), (oa wz cI 2 WY), (oc6 dr (.ref dx) (.ref dy) (nI nd) rd), (oa dx cI cd P), (oa dy cI cd Q), (oc0 br b1 b2 b3 b4), (oc0 bo b5 b6 b7 b8), (oc7 sh (.ref fa) (nI ft)), (oq fa cF 200 FA)] ++ va_pl L f) s.heap.size = A at hD hXL ⊢
  have hA : ∀ q : Nat, s.heap.size ≤ q → A q := fun q h => by rw [← hAe]; exact Or.inr h
  clear hAe
  have hS : va_S A s.heap s.heap [] := va_S.rf
  have hXN := hXL.1
  have hK3 := hK.sub [0, 1, 2] rfl
  have hP : va_P (dC, dI) classes ([(oc8 x (.ref sh) (.ref lw) (.ref ro) (.ref bq) (.ref bp) (.ref dq) (.ref dp) (.ref lv) (.ref sl) (nI dn) sd ul su), (oc10 sl mc9 (.ref ea) (nI T)), (oc3 lw (.ref dr) (.ref tg) (.ref wy) (.ref br) (.ref bo) (.ref aa)), (oc6 tg (.ref tx) (.ref ty) (nI nt) rt), (oa tx cI 3 TX), (oa ty cI 3 TY), (oc6 wy (.ref wx) (.ref wz) (nI nw) rw), (oa wx cI 2 WX), (oa wz cI 2 WY), (oc6 dr (.ref dx) (.ref dy) (nI nd) rd), (oa dx cI cd P), (oa dy cI cd Q), (oc0 br b1 b2 b3 b4), (oc0 bo b5 b6 b7 b8), (oc7 sh (.ref fa) (nI ft)), (oq fa cF 200 FA)] ++ va_pl L f) s.heap := hP
  obtain ⟨Q9, hQ9⟩ : ∃ Q9 : State → Prop, Q9 = MQ below (zQ (some (.int 1)) (fun t => ∃ (mc1 : Int32), ∃ (L1 : List Nat), ∃ (f1 : Nat → va_E), ∃ (ea1 : Nat), ∃ (nt1 : Nat), ∃ (TX1 : Nat → Int32), ∃ (TY1 : Nat → Int32), ∃ (rt1 : Int32), ∃ (nw1 : Nat), ∃ (WX1 : Nat → Int32), ∃ (WY1 : Nat → Int32), ∃ (rw1 : Int32), ∃ (d5 : Int32), ∃ (d6 : Int32), ∃ (d7 : Int32), ∃ (d8 : Int32), ∃ (e5 : Int32), ∃ (e6 : Int32), ∃ (e7 : Int32), ∃ (e8 : Int32), ∃ (P1 : Nat → Int32), ∃ (Q1 : Nat → Int32), (shB cI cO L1 f1 e0 FA ea1 bs (dn + 1) (dn + 1) ft (upN FT (dn + 1) ft) (upN V (dn + 1) (vC kd st gb it mn)) (upN VX (dn + 1) (fgX f0 (nN (mn f0)) (fun i => smv (pI (¬ 5 ≤ (kd f0).toInt ∧ (i = 0 ∨ i = (nN (mn f0)) - 1))) (cF40 cx f0 (prv (nN (mn f0)) i)) (cF40 cx f0 i) (cF40 cx f0 (nxt (nN (mn f0)) i))) cx)) (upN VY (dn + 1) (fgX f0 (nN (mn f0)) (fun i => smv (pI (¬ 5 ≤ (kd f0).toInt ∧ (i = 0 ∨ i = (nN (mn f0)) - 1))) (cF40 cy f0 (prv (nN (mn f0)) i)) (cF40 cy f0 i) (cF40 cy f0 (nxt (nN (mn f0)) i))) cy)) tn rk wd tw pa pb (upd wh (dn + 1) (2 : Int32)) (upd of9 (dn + 1) (nI f0)) (upd we (dn + 1) (0 : Int32)) kd st gb it mn (fgX f0 (nN (mn f0)) (fun i => smv (pI (¬ 5 ≤ (kd f0).toInt ∧ (i = 0 ∨ i = (nN (mn f0)) - 1))) (cF40 cx f0 (prv (nN (mn f0)) i)) (cF40 cx f0 i) (cF40 cx f0 (nxt (nN (mn f0)) i))) cx) (fgX f0 (nN (mn f0)) (fun i => smv (pI (¬ 5 ≤ (kd f0).toInt ∧ (i = 0 ∨ i = (nN (mn f0)) - 1))) (cF40 cy f0 (prv (nN (mn f0)) i)) (cF40 cy f0 i) (cF40 cy f0 (nxt (nN (mn f0)) i))) cy)) ∧ va_P (dC, dI) classes ([(oc8 x (.ref sh) (.ref lw) (.ref ro) (.ref bq) (.ref bp) (.ref dq) (.ref dp) (.ref lv) (.ref sl) (nI (dn + 1)) sd ul 0), (oc10 sl mc1 (.ref ea1) (nI (dn + 1))), (oc3 lw (.ref dr) (.ref tg) (.ref wy) (.ref br) (.ref bo) (.ref aa)), (oc6 tg (.ref tx) (.ref ty) (nI nt1) rt1), (oa tx cI 3 TX1), (oa ty cI 3 TY1), (oc6 wy (.ref wx) (.ref wz) (nI nw1) rw1), (oa wx cI 2 WX1), (oa wz cI 2 WY1), (oc6 dr (.ref dx) (.ref dy) (nI (nN (mn f0))) (rgK (kd f0).toInt)), (oa dx cI cd P1), (oa dy cI cd Q1), (oc0 br d5 d6 d7 d8), (oc0 bo e5 e6 e7 e8), (oc7 sh (.ref fa) (nI ft)), (oq fa cF 200 FA)] ++ va_pl L1 f1) t.heap ∧ va_D A ([(oc8 x (.ref sh) (.ref lw) (.ref ro) (.ref bq) (.ref bp) (.ref dq) (.ref dp) (.ref lv) (.ref sl) (nI (dn + 1)) sd ul 0), (oc10 sl mc1 (.ref ea1) (nI (dn + 1))), (oc3 lw (.ref dr) (.ref tg) (.ref wy) (.ref br) (.ref bo) (.ref aa)), (oc6 tg (.ref tx) (.ref ty) (nI nt1) rt1), (oa tx cI 3 TX1), (oa ty cI 3 TY1), (oc6 wy (.ref wx) (.ref wz) (nI nw1) rw1), (oa wx cI 2 WX1), (oa wz cI 2 WY1), (oc6 dr (.ref dx) (.ref dy) (nI (nN (mn f0))) (rgK (kd f0).toInt)), (oa dx cI cd P1), (oa dy cI cd Q1), (oc0 br d5 d6 d7 d8), (oc0 bo e5 e6 e7 e8), (oc7 sh (.ref fa) (nI ft)), (oq fa cF 200 FA)] ++ va_pl L1 f1)) A) ([.ref x, .int (nI f0)] : List Value).toArray s (ft + 6) (4 * ft + 2 * nN (mn f0) + 815) A := ⟨_, rfl⟩
  rw [← hQ9]
  have hl := lv_entry ([.ref x, .int (nI f0)]) (n := 4) (Nat.le_of_ble_eq_true rfl)
  rw [lg_entry_eq]
  generalize (lg_sl ([.ref x, .int (nI f0)]) ++ List.replicate (4 - (lg_sl ([.ref x, .int (nI f0)])).length) Slot.unset).toArray = ls at hl ⊢
  have hl : lv_has ls 4 [(0, .ref x), (1, .int (nI f0))] := hl
  obtain ⟨own, fe, cl, la, sp, SA, hG9, hH9, hft9⟩ := hB
  obtain ⟨hG, hM, hdT, hT5⟩ := M_0 hG9 hH9 hft9
  have h200 : ft ≤ 200 := hG.2.2.2.2.2.1.2.2.2.2.2
  have hFA9 := hG.2.2.2.2.2.2
  obtain ⟨lo5, lx5, ly5, ln5, LX5, LY5, we5, r5, rx5, ry5, cap5, X5, Y5, hc5⟩ := sh_fc hG.1 hG.2.1 (Nat.le_refl _) hf0 htn
  have hc5 := fc_0 hc5
  have hb5 := hc5.2.2.1
  have hb6 := hc5.2.1
  have hlv : lvF ft st tn f0 := ⟨hf0, hst, htn⟩
  have hwf0 := hwf f0 hlv
  have hw1 := hwf0.2.1
  have hkn0 := hkn f0 hlv
  have hX5 := hc5.2.2.2.2.1
  have hc9_1 : inPl L f [(oc1 (fe f0) (rk f0) (wd f0) (tw f0) (pa f0) (pb f0) (.ref lo5) (.ref (la dn f0)) .null), (oc4 (la dn f0) (kd f0) (st f0) (.ref r5) (gb f0) (it f0) (nI we5)), (oc6 r5 (.ref rx5) (.ref ry5) (nI (nN (mn f0))) (rgK (kd f0).toInt)), (oa rx5 cI cap5 X5), (oa ry5 cI cap5 Y5), (oc6 lo5 (.ref lx5) (.ref ly5) (nI ln5) 0), (oa lx5 cI (cl f0) LX5), (oa ly5 cI (cl f0) LY5)] := ⟨ce_pl hc5.1.1, ce_pl hc5.1.2.1, ce_pl hc5.1.2.2.1.1, ce_pl hc5.1.2.2.1.2.1, ce_pl hc5.1.2.2.1.2.2.1, ce_pl hc5.1.2.2.2.1, ce_pl hc5.1.2.2.2.2.1, ce_pl hc5.1.2.2.2.2.2.1, trivial⟩
  have hD0_1 := hD
  obtain ⟨hP, hD⟩ := pl_out hP hD [(oc1 (fe f0) (rk f0) (wd f0) (tw f0) (pa f0) (pb f0) (.ref lo5) (.ref (la dn f0)) .null), (oc4 (la dn f0) (kd f0) (st f0) (.ref r5) (gb f0) (it f0) (nI we5)), (oc6 r5 (.ref rx5) (.ref ry5) (nI (nN (mn f0))) (rgK (kd f0).toInt)), (oa rx5 cI cap5 X5), (oa ry5 cI cap5 Y5), (oc6 lo5 (.ref lx5) (.ref ly5) (nI ln5) 0), (oa lx5 cI (cl f0) LX5), (oa ly5 cI (cl f0) LY5)] hc9_1 (pw8 hc5 (by omega))
  generalize hT_1 : outPl L [(oc1 (fe f0) (rk f0) (wd f0) (tw f0) (pa f0) (pb f0) (.ref lo5) (.ref (la dn f0)) .null), (oc4 (la dn f0) (kd f0) (st f0) (.ref r5) (gb f0) (it f0) (nI we5)), (oc6 r5 (.ref rx5) (.ref ry5) (nI (nN (mn f0))) (rgK (kd f0).toInt)), (oa rx5 cI cap5 X5), (oa ry5 cI cap5 Y5), (oc6 lo5 (.ref lx5) (.ref ly5) (nI ln5) 0), (oa lx5 cI (cl f0) LX5), (oa ly5 cI (cl f0) LY5)] = T_1 at hP hD
  obtain ⟨hP, hD⟩ : zPD (dC, dI) classes A ([(oc8 x (.ref sh) (.ref lw) (.ref ro) (.ref bq) (.ref bp) (.ref dq) (.ref dp) (.ref lv) (.ref sl) (nI dn) sd ul su), (oc10 sl mc9 (.ref ea) (nI T)), (oc3 lw (.ref dr) (.ref tg) (.ref wy) (.ref br) (.ref bo) (.ref aa)), (oc6 tg (.ref tx) (.ref ty) (nI nt) rt), (oa tx cI 3 TX), (oa ty cI 3 TY), (oc6 wy (.ref wx) (.ref wz) (nI nw) rw), (oa wx cI 2 WX), (oa wz cI 2 WY), (oc6 dr (.ref dx) (.ref dy) (nI nd) rd), (oa dx cI cd P), (oa dy cI cd Q), (oc0 br b1 b2 b3 b4), (oc0 bo b5 b6 b7 b8), (oc7 sh (.ref fa) (nI ft)), (oq fa cF 200 FA), (oc1 (fe f0) (rk f0) (wd f0) (tw f0) (pa f0) (pb f0) (.ref lo5) (.ref (la dn f0)) .null), (oc4 (la dn f0) (kd f0) (st f0) (.ref r5) (gb f0) (it f0) (nI we5)), (oc6 r5 (.ref rx5) (.ref ry5) (nI (nN (mn f0))) (rgK (kd f0).toInt)), (oa rx5 cI cap5 X5), (oa ry5 cI cap5 Y5), (oc6 lo5 (.ref lx5) (.ref ly5) (nI ln5) 0), (oa lx5 cI (cl f0) LX5), (oa ly5 cI (cl f0) LY5)] ++ va_pl T_1 f) s.heap := ⟨hP, hD⟩
  refine lv_aload_n hx hb dX10_smooth_0 rfl (lv_at hl 0 rfl) ?_
  refine va_get (D := (dC, dI)) (ci := 8) (v := .ref sh) (C := RX10) (T := TX10) (N := 13) hx hb hts inX10 hown hK hP 0 rfl rfl 0 (Nat.le_of_ble_eq_true rfl) (hts _ mw_309) (fun _ h9 => h9) rfl dX10_smooth_1 ?_
  refine lv_iload_n hx hb dX10_smooth_4 rfl (lv_at hl 1 rfl) ?_
  obtain ⟨hPc, hDc, hFc⟩ := zc_sub (wc := [(oc7 sh (.ref fa) (nI ft)), (oq fa cF 200 FA)]) hP hD hS hA [14, 15] rfl rfl
  refine zcall (st1 := [.ref (fe f0)]) (va_runV (As := [.int (nI f0)]) (rest := []) ⟨hx, hb, hml, hown, hts⟩ (k_Sheet_find l dC dI cI cZ cF s.heap.size sh fa ft FA f0 (fe f0) (by first | with_reducible assumption | omega) (by first | with_reducible assumption | omega) (hFA9 f0 (by first | with_reducible assumption | omega))) (csV_94 hts rfl rfl ⟨Nat.le_of_ble_eq_true rfl, Nat.le_of_ble_eq_true rfl⟩) (zPV2 (q0 := 0) (ci := 7) hPc hDc hK3 hXN rfl rfl) rfl rfl hl.1 rfl (lv_room (Nat.le_of_ble_eq_true rfl)) dX10_smooth_5 ⟨show 0 ≤ ft + 6 by omega, show 0 ≤ 4 * ft + 2 * nN (mn f0) + 815 by omega⟩) hS hFc hFc rfl (fun t H locs ht hB hk1 hS => ?_)
  obtain ⟨hP1, hD1⟩ := hB
  rw [ht] at hP1
  obtain ⟨hP, hD⟩ := zkQ (W2 := [(oc8 x (.ref sh) (.ref lw) (.ref ro) (.ref bq) (.ref bp) (.ref dq) (.ref dp) (.ref lv) (.ref sl) (nI dn) sd ul su), (oc10 sl mc9 (.ref ea) (nI T)), (oc3 lw (.ref dr) (.ref tg) (.ref wy) (.ref br) (.ref bo) (.ref aa)), (oc6 tg (.ref tx) (.ref ty) (nI nt) rt), (oa tx cI 3 TX), (oa ty cI 3 TY), (oc6 wy (.ref wx) (.ref wz) (nI nw) rw), (oa wx cI 2 WX), (oa wz cI 2 WY), (oc6 dr (.ref dx) (.ref dy) (nI nd) rd), (oa dx cI cd P), (oa dy cI cd Q), (oc0 br b1 b2 b3 b4), (oc0 bo b5 b6 b7 b8), (oc7 sh (.ref fa) (nI ft)), (oq fa cF 200 FA), (oc1 (fe f0) (rk f0) (wd f0) (tw f0) (pa f0) (pb f0) (.ref lo5) (.ref (la dn f0)) .null), (oc4 (la dn f0) (kd f0) (st f0) (.ref r5) (gb f0) (it f0) (nI we5)), (oc6 r5 (.ref rx5) (.ref ry5) (nI (nN (mn f0))) (rgK (kd f0).toInt)), (oa rx5 cI cap5 X5), (oa ry5 cI cap5 Y5), (oc6 lo5 (.ref lx5) (.ref ly5) (nI ln5) 0), (oa lx5 cI (cl f0) LX5), (oa ly5 cI (cl f0) LY5)]) hP hD [14, 15] [0, 1, 2, 3, 4, 5, 6, 7, 8, 9, 10, 11, 12, 13, 16, 17, 18, 19, 20, 21, 22, 23] [0, 1, 2, 3, 4, 5, 6, 7, 8, 9, 10, 11, 12, 13, 16, 17, 18, 19, 20, 21, 22, 23] [14, 15] [0, 1, 2, 3, 4, 5, 6, 7, 8, 9, 10, 11, 12, 13, 22, 23, 14, 15, 16, 17, 18, 19, 20, 21] 24 rfl rfl rfl rfl rfl rfl rfl rfl rfl hk1 hFc hP1 hD1
  clear hk1 hPc hDc hFc hP1 hD1 ht
  refine lv_astore_n (lv' := [(2, .ref (fe f0)), (0, .ref x), (1, .int (nI f0))]) hx hb dX10_smooth_8 rfl hl (Nat.le_of_ble_eq_true rfl) rfl (fun ls hl => ?_)
  refine lv_aload_n hx hb dX10_smooth_9 rfl (lv_at hl 0 rfl) ?_
  refine lv_ifnonnull (tgt := 19) hx hb dX10_smooth_10 rfl ?_
  refine lv_aload_n hx hb dX10_smooth_19 rfl (lv_at hl 0 rfl) ?_
  refine va_get (D := (dC, dI)) (ci := 1) (v := .ref (la dn f0)) (C := RX2) (T := TX2) (N := 8) hx hb hts inX2 hown hK hP 16 rfl rfl 6 (Nat.le_of_ble_eq_true rfl) (hts _ mw_433) (fun _ h9 => h9) rfl dX10_smooth_20 ?_
  refine va_get (D := (dC, dI)) (ci := 4) (v := .int (st f0)) (C := RX5) (T := TX5) (N := 6) hx hb hts inX5 hown hK hP 17 rfl rfl 1 (Nat.le_of_ble_eq_true rfl) (hts _ mw_385) (fun _ h9 => h9) rfl dX10_smooth_23 ?_
  refine lv_iconst (v := 1) hx hb dX10_smooth_26 rfl ?_
  refine lv_icmp_eq (tgt := 36) hx hb dX10_smooth_27 rfl (fun c_1 => ?_) (fun c_1 => ?_)
  · have c_1 : (st f0).toInt = 1 := zc_eq rfl rfl c_1
    refine lv_aload_n hx hb dX10_smooth_36 rfl (lv_at hl 0 rfl) ?_
    obtain ⟨hPc, hDc, hFc⟩ := zc_sub (wc := [(oc1 (fe f0) (rk f0) (wd f0) (tw f0) (pa f0) (pb f0) (.ref lo5) (.ref (la dn f0)) .null), (oc4 (la dn f0) (kd f0) (st f0) (.ref r5) (gb f0) (it f0) (nI we5))]) hP hD hS hA [16, 17] rfl rfl
    refine zcall (st1 := [.int (pI (1 ≤ (kd f0).toInt ∧ (kd f0).toInt ≤ 5))]) (va_runV (As := []) (rest := []) ⟨hx, hb, hml, hown, hts⟩ (k_Feature_bends_r l dC dI cI cZ cF H.size (fe f0) lo5 (rk f0) (wd f0) (tw f0) (pa f0) (pb f0) (la dn f0) (kd f0) (st f0) (gb f0) (it f0) (nI we5) r5 ) (csV_97 hts rfl rfl ⟨Nat.le_of_ble_eq_true rfl, Nat.le_of_ble_eq_true rfl⟩) (zPV2 (q0 := 0) (ci := 1) hPc hDc hK3 hXN rfl rfl) rfl rfl hl.1 rfl (lv_room (Nat.le_of_ble_eq_true rfl)) dX10_smooth_37 ⟨show 0 ≤ ft + 6 by omega, show 0 ≤ 4 * ft + 2 * nN (mn f0) + 815 by omega⟩) hS hFc hFc rfl (fun t H locs ht hB hk1 hS => ?_)
    obtain ⟨hP1, hD1⟩ := hB
    rw [ht] at hP1
    obtain ⟨hP, hD⟩ := zkQ (W2 := [(oc8 x (.ref sh) (.ref lw) (.ref ro) (.ref bq) (.ref bp) (.ref dq) (.ref dp) (.ref lv) (.ref sl) (nI dn) sd ul su), (oc10 sl mc9 (.ref ea) (nI T)), (oc3 lw (.ref dr) (.ref tg) (.ref wy) (.ref br) (.ref bo) (.ref aa)), (oc6 tg (.ref tx) (.ref ty) (nI nt) rt), (oa tx cI 3 TX), (oa ty cI 3 TY), (oc6 wy (.ref wx) (.ref wz) (nI nw) rw), (oa wx cI 2 WX), (oa wz cI 2 WY), (oc6 dr (.ref dx) (.ref dy) (nI nd) rd), (oa dx cI cd P), (oa dy cI cd Q), (oc0 br b1 b2 b3 b4), (oc0 bo b5 b6 b7 b8), (oc7 sh (.ref fa) (nI ft)), (oq fa cF 200 FA), (oc1 (fe f0) (rk f0) (wd f0) (tw f0) (pa f0) (pb f0) (.ref lo5) (.ref (la dn f0)) .null), (oc4 (la dn f0) (kd f0) (st f0) (.ref r5) (gb f0) (it f0) (nI we5)), (oc6 r5 (.ref rx5) (.ref ry5) (nI (nN (mn f0))) (rgK (kd f0).toInt)), (oa rx5 cI cap5 X5), (oa ry5 cI cap5 Y5), (oc6 lo5 (.ref lx5) (.ref ly5) (nI ln5) 0), (oa lx5 cI (cl f0) LX5), (oa ly5 cI (cl f0) LY5)]) hP hD [16, 17] [0, 1, 2, 3, 4, 5, 6, 7, 8, 9, 10, 11, 12, 13, 14, 15, 18, 19, 20, 21, 22, 23] [0, 1, 2, 3, 4, 5, 6, 7, 8, 9, 10, 11, 12, 13, 14, 15, 18, 19, 20, 21, 22, 23] [16, 17] [0, 1, 2, 3, 4, 5, 6, 7, 8, 9, 10, 11, 12, 13, 14, 15, 22, 23, 16, 17, 18, 19, 20, 21] 24 rfl rfl rfl rfl rfl rfl rfl rfl rfl hk1 hFc hP1 hD1
    clear hk1 hPc hDc hFc hP1 hD1 ht
    refine lv_if_ne (tgt := 49) hx hb dX10_smooth_40 rfl (fun c_2 => ?_) (fun c_2 => ?_)
    · have c_2 : 1 ≤ (kd f0).toInt ∧ (kd f0).toInt ≤ 5 := zp_1 c_2
      refine lv_aload_n hx hb dX10_smooth_49 rfl (lv_at hl 0 rfl) ?_
      refine va_get (D := (dC, dI)) (ci := 1) (v := .ref (la dn f0)) (C := RX2) (T := TX2) (N := 8) hx hb hts inX2 hown hK hP 16 rfl rfl 6 (Nat.le_of_ble_eq_true rfl) (hts _ mw_433) (fun _ h9 => h9) rfl dX10_smooth_50 ?_
      refine va_get (D := (dC, dI)) (ci := 4) (v := .ref r5) (C := RX5) (T := TX5) (N := 6) hx hb hts inX5 hown hK hP 17 rfl rfl 2 (Nat.le_of_ble_eq_true rfl) (hts _ mw_391) (fun _ h9 => h9) rfl dX10_smooth_53 ?_
      refine lv_astore_n (lv' := [(3, .ref r5), (2, .ref (fe f0)), (0, .ref x), (1, .int (nI f0))]) hx hb dX10_smooth_56 rfl hl (Nat.le_of_ble_eq_true rfl) rfl (fun ls hl => ?_)
      refine lv_aload_n hx hb dX10_smooth_57 rfl (lv_at hl 0 rfl) ?_
      refine lv_ifnonnull (tgt := 67) hx hb dX10_smooth_58 rfl ?_
      refine lv_aload_n hx hb dX10_smooth_67 rfl (lv_at hl 2 rfl) ?_
      refine va_get (D := (dC, dI)) (ci := 8) (v := .ref lw) (C := RX10) (T := TX10) (N := 13) hx hb hts inX10 hown hK hP 0 rfl rfl 1 (Nat.le_of_ble_eq_true rfl) (hts _ mw_310) (fun _ h9 => h9) rfl dX10_smooth_68 ?_
      refine va_get (D := (dC, dI)) (ci := 3) (v := .ref dr) (C := RX4) (T := TX4) (N := 6) hx hb hts inX4 hown hK hP 2 rfl rfl 0 (Nat.le_of_ble_eq_true rfl) (hts _ mw_220) (fun _ h9 => h9) rfl dX10_smooth_71 ?_
      refine lv_aload_n hx hb dX10_smooth_74 rfl (lv_at hl 0 rfl) ?_
      obtain ⟨hPc, hDc, hFc⟩ := zc_sub (wc := [(oc6 dr (.ref dx) (.ref dy) (nI nd) rd), (oa dx cI cd P), (oa dy cI cd Q), (oc6 r5 (.ref rx5) (.ref ry5) (nI (nN (mn f0))) (rgK (kd f0).toInt)), (oa rx5 cI cap5 X5), (oa ry5 cI cap5 Y5)]) hP hD hS hA [9, 10, 11, 18, 19, 20] rfl rfl
      refine zcall (st1 := []) (va_runV (As := [.ref r5]) (rest := []) ⟨hx, hb, hml, hown, hts⟩ (k_Row_smoothFrom l dC dI cI cZ cF H.size dr dx dy nd cd P Q rd r5 rx5 ry5 (nN (mn f0)) cap5 X5 Y5 (rgK (kd f0).toInt) (by first | with_reducible assumption | omega) (by first | with_reducible assumption | omega) (by first | with_reducible assumption | omega) (by first | with_reducible assumption | omega) (rgK_01 _)) (csV_116 hts rfl rfl ⟨Nat.le_of_ble_eq_true rfl, Nat.le_of_ble_eq_true rfl⟩) (zPV2 (q0 := 0) (ci := 6) hPc hDc hK3 hXN rfl rfl) rfl rfl hl.1 rfl (lv_room (Nat.le_of_ble_eq_true rfl)) dX10_smooth_75 ⟨show 0 ≤ ft + 6 by omega, show 0 ≤ 4 * ft + 2 * nN (mn f0) + 815 by omega⟩) hS hFc hFc rfl (fun t H locs ht hB hk1 hS => ?_)
      obtain ⟨P7, Q7, hall7, hP1, hD1⟩ := hB
      rw [ht] at hP1
      obtain ⟨hP, hD⟩ := zkQ (W2 := [(oc8 x (.ref sh) (.ref lw) (.ref ro) (.ref bq) (.ref bp) (.ref dq) (.ref dp) (.ref lv) (.ref sl) (nI dn) sd ul su), (oc10 sl mc9 (.ref ea) (nI T)), (oc3 lw (.ref dr) (.ref tg) (.ref wy) (.ref br) (.ref bo) (.ref aa)), (oc6 tg (.ref tx) (.ref ty) (nI nt) rt), (oa tx cI 3 TX), (oa ty cI 3 TY), (oc6 wy (.ref wx) (.ref wz) (nI nw) rw), (oa wx cI 2 WX), (oa wz cI 2 WY), (oc6 dr (.ref dx) (.ref dy) (nI (nN (mn f0))) (rgK (kd f0).toInt)), (oa dx cI cd P7), (oa dy cI cd Q7), (oc0 br b1 b2 b3 b4), (oc0 bo b5 b6 b7 b8), (oc7 sh (.ref fa) (nI ft)), (oq fa cF 200 FA), (oc1 (fe f0) (rk f0) (wd f0) (tw f0) (pa f0) (pb f0) (.ref lo5) (.ref (la dn f0)) .null), (oc4 (la dn f0) (kd f0) (st f0) (.ref r5) (gb f0) (it f0) (nI we5)), (oc6 r5 (.ref rx5) (.ref ry5) (nI (nN (mn f0))) (rgK (kd f0).toInt)), (oa rx5 cI cap5 X5), (oa ry5 cI cap5 Y5), (oc6 lo5 (.ref lx5) (.ref ly5) (nI ln5) 0), (oa lx5 cI (cl f0) LX5), (oa ly5 cI (cl f0) LY5)]) hP hD [9, 10, 11, 18, 19, 20] [0, 1, 2, 3, 4, 5, 6, 7, 8, 12, 13, 14, 15, 16, 17, 21, 22, 23] [0, 1, 2, 3, 4, 5, 6, 7, 8, 12, 13, 14, 15, 16, 17, 21, 22, 23] [9, 10, 11, 18, 19, 20] [0, 1, 2, 3, 4, 5, 6, 7, 8, 18, 19, 20, 9, 10, 11, 12, 13, 14, 21, 22, 23, 15, 16, 17] 24 rfl rfl rfl rfl rfl rfl rfl rfl rfl hk1 hFc hP1 hD1
      clear hk1 hPc hDc hFc hP1 hD1 ht
      have hv7 : ∀ k, k < nN (mn f0) → P7 k = (fun i => smv (pI (¬ 5 ≤ (kd f0).toInt ∧ (i = 0 ∨ i = (nN (mn f0)) - 1))) (cF40 cx f0 (prv (nN (mn f0)) i)) (cF40 cx f0 i) (cF40 cx f0 (nxt (nN (mn f0)) i))) k ∧ Q7 k = (fun i => smv (pI (¬ 5 ≤ (kd f0).toInt ∧ (i = 0 ∨ i = (nN (mn f0)) - 1))) (cF40 cy f0 (prv (nN (mn f0)) i)) (cF40 cy f0 i) (cF40 cy f0 (nxt (nN (mn f0)) i))) k := fun k hk => ⟨sm_hv hk (fun j hj => (hX5 j hj).1) (hall7 k hk).1, sm_hv hk (fun j hj => (hX5 j hj).2) (hall7 k hk).2⟩
      refine lv_aload_n hx hb dX10_smooth_78 rfl (lv_at hl 2 rfl) ?_
      refine lv_aload_n hx hb dX10_smooth_79 rfl (lv_at hl 1 rfl) ?_
      refine lv_iload_n hx hb dX10_smooth_80 rfl (lv_at hl 3 rfl) ?_
      refine lv_iconst (v := 2) hx hb dX10_smooth_81 rfl ?_
      obtain ⟨hPc, hDc, hFc⟩ := zc_part (cx := [(oc8 x (.ref sh) (.ref lw) (.ref ro) (.ref bq) (.ref bp) (.ref dq) (.ref dp) (.ref lv) (.ref sl) (nI dn) sd ul su), (oc10 sl mc9 (.ref ea) (nI T)), (oc3 lw (.ref dr) (.ref tg) (.ref wy) (.ref br) (.ref bo) (.ref aa)), (oc6 tg (.ref tx) (.ref ty) (nI nt) rt), (oa tx cI 3 TX), (oa ty cI 3 TY), (oc6 wy (.ref wx) (.ref wz) (nI nw) rw), (oa wx cI 2 WX), (oa wz cI 2 WY), (oc6 dr (.ref dx) (.ref dy) (nI (nN (mn f0))) (rgK (kd f0).toInt)), (oa dx cI cd P7), (oa dy cI cd Q7), (oc0 br b1 b2 b3 b4), (oc0 bo b5 b6 b7 b8), (oc1 (fe f0) (rk f0) (wd f0) (tw f0) (pa f0) (pb f0) (.ref lo5) (.ref (la dn f0)) .null), (oc4 (la dn f0) (kd f0) (st f0) (.ref r5) (gb f0) (it f0) (nI we5)), (oc6 r5 (.ref rx5) (.ref ry5) (nI (nN (mn f0))) (rgK (kd f0).toInt)), (oa rx5 cI cap5 X5), (oa ry5 cI cap5 Y5), (oc6 lo5 (.ref lx5) (.ref ly5) (nI ln5) 0), (oa lx5 cI (cl f0) LX5), (oa ly5 cI (cl f0) LY5), (oc7 sh (.ref fa) (nI ft)), (oq fa cF 200 FA)]) hP hD hS hA [0, 1, 2, 3, 4, 5, 6, 7, 8, 9, 10, 11, 12, 13, 16, 17, 18, 19, 20, 21, 22, 23, 14, 15] rfl rfl
      refine zcall (st1 := [.int 1]) (va_runV (As := [.ref (fe f0), .int (nI f0), .int 2]) (rest := []) ⟨hx, hb, hml, hown, hts⟩ (k_moveTo_m_y l dC dI cI cZ cF H.size cO e0 mi x sh lw ro bq bp dq dp lv sl sd ul su ea mc9 fa FA bs dn T ft FT V VX VY tn rk wd tw pa pb wh of9 we kd st gb it mn cx cy T_1 f L f0 own fe cl la sp SA lo5 lx5 ly5 ln5 LX5 LY5 we5 r5 rx5 ry5 cap5 X5 Y5 dr tg wy br bo aa tx ty nt TX TY rt wx wz nw WX WY rw dx dy cd P7 Q7 b1 b2 b3 b4 b5 b6 b7 b8 2 (fgX f0 (nN (mn f0)) (fun i => smv (pI (¬ 5 ≤ (kd f0).toInt ∧ (i = 0 ∨ i = (nN (mn f0)) - 1))) (cF40 cx f0 (prv (nN (mn f0)) i)) (cF40 cx f0 i) (cF40 cx f0 (nxt (nN (mn f0)) i))) cx) (fgX f0 (nN (mn f0)) (fun i => smv (pI (¬ 5 ≤ (kd f0).toInt ∧ (i = 0 ∨ i = (nN (mn f0)) - 1))) (cF40 cy f0 (prv (nN (mn f0)) i)) (cF40 cy f0 i) (cF40 cy f0 (nxt (nN (mn f0)) i))) cy) (hG9) (hH9) (hft9) (hc5) (hT_1) (by first | with_reducible assumption | assumption) (by first | with_reducible assumption | assumption) (hst) (hwf) (hkn) (by first | with_reducible assumption | omega) (by have := hkn0; have := hsm.1; omega) (by first | with_reducible assumption | omega) (((alM_cx hw1.1 hX5).trans (alM_lw (VX := fun i => smv (pI (¬ 5 ≤ (kd f0).toInt ∧ (i = 0 ∨ i = (nN (mn f0)) - 1))) (cF40 cx f0 (prv (nN (mn f0)) i)) (cF40 cx f0 i) (cF40 cx f0 (nxt (nN (mn f0)) i))) (VY := fun i => smv (pI (¬ 5 ≤ (kd f0).toInt ∧ (i = 0 ∨ i = (nN (mn f0)) - 1))) (cF40 cy f0 (prv (nN (mn f0)) i)) (cF40 cy f0 i) (cF40 cy f0 (nxt (nN (mn f0)) i))) (by first | with_reducible assumption | omega) (by first | with_reducible assumption | omega) (hsm.2 (by first | with_reducible assumption | omega)).1 hv7 hwf hkn)).mpr hlaw) (fun h => absurd hmv ((mv_alk hv7 hX5).mp h)) (fun k hk => by rw [fgX_f k hk, fgX_f k hk]; exact hv7 k hk) (fun j hj => ⟨fgX_o (by first | with_reducible assumption | omega), fgX_o (by first | with_reducible assumption | omega)⟩)) (csV_117 hts rfl rfl ⟨Nat.le_of_ble_eq_true rfl, Nat.le_of_ble_eq_true rfl⟩) (zPVL (q0 := 0) (ci := 8) hPc hDc hK hXL hS hFc rfl rfl) rfl rfl hl.1 rfl (lv_room (Nat.le_of_ble_eq_true rfl)) dX10_smooth_82 ⟨show (0 + (ft + 6)) ≤ ft + 6 by omega, show (0 + (4 * ft + 2 * nN (mn f0) + 815)) ≤ 4 * ft + 2 * nN (mn f0) + 815 by omega⟩) hS hFc hFc rfl (fun t H locs ht hB hk1 hS => ?_)
      obtain ⟨mc8, L8, f8, ea8, nt8, TX8, TY8, rt8, nw8, WX8, WY8, rw8, g08, g18, g28, g38, g48, g58, g68, g78, hB6, hP1, hD1⟩ := hB
      rw [ht] at hP1
      obtain ⟨hP, hD⟩ := zkP (W2 := [(oc8 x (.ref sh) (.ref lw) (.ref ro) (.ref bq) (.ref bp) (.ref dq) (.ref dp) (.ref lv) (.ref sl) (nI (dn + 1)) sd ul 0), (oc10 sl mc8 (.ref ea8) (nI (dn + 1))), (oc3 lw (.ref dr) (.ref tg) (.ref wy) (.ref br) (.ref bo) (.ref aa)), (oc6 tg (.ref tx) (.ref ty) (nI nt8) rt8), (oa tx cI 3 TX8), (oa ty cI 3 TY8), (oc6 wy (.ref wx) (.ref wz) (nI nw8) rw8), (oa wx cI 2 WX8), (oa wz cI 2 WY8), (oc6 dr (.ref dx) (.ref dy) (nI (nN (mn f0))) (rgK (kd f0).toInt)), (oa dx cI cd P7), (oa dy cI cd Q7), (oc0 br g08 g18 g28 g38), (oc0 bo g48 g58 g68 g78), (oc7 sh (.ref fa) (nI ft)), (oq fa cF 200 FA)]) hP hD [0, 1, 2, 3, 4, 5, 6, 7, 8, 9, 10, 11, 12, 13, 16, 17, 18, 19, 20, 21, 22, 23, 14, 15] [] [] [0, 1, 2, 3, 4, 5, 6, 7, 8, 9, 10, 11, 12, 13, 14, 15] [0, 1, 2, 3, 4, 5, 6, 7, 8, 9, 10, 11, 12, 13, 14, 15] 16 rfl rfl rfl rfl rfl rfl rfl rfl rfl hk1 hFc hP1 hD1
      clear hk1 hPc hDc hFc hP1 hD1 ht
      obtain ⟨hP9, hD9⟩ := zq_part (cx := [(oc8 x (.ref sh) (.ref lw) (.ref ro) (.ref bq) (.ref bp) (.ref dq) (.ref dp) (.ref lv) (.ref sl) (nI (dn + 1)) sd ul 0), (oc10 sl mc8 (.ref ea8) (nI (dn + 1))), (oc3 lw (.ref dr) (.ref tg) (.ref wy) (.ref br) (.ref bo) (.ref aa)), (oc6 tg (.ref tx) (.ref ty) (nI nt8) rt8), (oa tx cI 3 TX8), (oa ty cI 3 TY8), (oc6 wy (.ref wx) (.ref wz) (nI nw8) rw8), (oa wx cI 2 WX8), (oa wz cI 2 WY8), (oc6 dr (.ref dx) (.ref dy) (nI (nN (mn f0))) (rgK (kd f0).toInt)), (oa dx cI cd P7), (oa dy cI cd Q7), (oc0 br g08 g18 g28 g38), (oc0 bo g48 g58 g68 g78), (oc7 sh (.ref fa) (nI ft)), (oq fa cF 200 FA)]) hP hD [0, 1, 2, 3, 4, 5, 6, 7, 8, 9, 10, 11, 12, 13, 14, 15] rfl rfl
      refine W.widen (k := ft + 6) (n := 4 * ft + 2 * nN (mn f0) + 815) (by omega) (by omega) ?_
      rw [hQ9]
      exact W.zret (ty := .boolean) (v := 1) hx hb hr (rfl) (fun t ht hW => ⟨⟨rfl, mc8, L8, f8, ea8, nt8, TX8, TY8, rt8, nw8, WX8, WY8, rw8, g08, g18, g28, g38, g48, g58, g68, g78, P7, Q7, (hB6), by rw [ht]; exact hP9, hD9⟩, hS.F ht⟩) hS.2.2 dX10_smooth_85
    · have c_2 : ¬ (1 ≤ (kd f0).toInt ∧ (kd f0).toInt ≤ 5) := zp_0 c_2
      exfalso; exact absurd hkd (by first | with_reducible assumption | assumption)
  · have c_1 : ¬ (st f0).toInt = 1 := zc_ne rfl rfl c_1
    exfalso; omega
set_option maxHeartbeats 4000000 in
set_option maxRecDepth 100000 in
theorem k_smooth_n (l : Launch) (dC : Nat → ClassId) (dI : Nat → Nat → Nat) (cI cZ cF : ClassId) (sz : Nat) (cO : ClassId) (e0 : Nat) (mi : Nat) (x : Nat) (sh : Nat) (lw : Nat) (ro : Nat) (bq : Nat) (bp : Nat) (dq : Nat) (dp : Nat) (lv : Nat) (sl : Nat) (sd : Int32) (ul : Int32) (su : Int32) (ea : Nat) (mc9 : Int32) (fa : Nat) (FA : Nat → Option Nat) (bs : Nat) (dn : Nat) (T : Nat) (ft : Nat) (FT : Nat → Nat) (V : Nat → Nat → Nat → Int32) (VX : Nat → Nat → Int32) (VY : Nat → Nat → Int32) (tn : Nat → Int32) (rk : Nat → Int32) (wd : Nat → Int32) (tw : Nat → Int32) (pa : Nat → Int32) (pb : Nat → Int32) (wh : Nat → Int32) (of9 : Nat → Int32) (we : Nat → Int32) (kd : Nat → Int32) (st : Nat → Int32) (gb : Nat → Int32) (it : Nat → Int32) (mn : Nat → Int32) (cx : Nat → Int32) (cy : Nat → Int32) (L : List Nat) (f : Nat → va_E) (f0 : Nat) (dr : Nat) (tg : Nat) (wy : Nat) (br : Nat) (bo : Nat) (aa : Nat) (tx : Nat) (ty : Nat) (nt : Nat) (TX : Nat → Int32) (TY : Nat → Int32) (rt : Int32) (wx : Nat) (wz : Nat) (nw : Nat) (WX : Nat → Int32) (WY : Nat → Int32) (rw : Int32) (dx : Nat) (dy : Nat) (nd : Nat) (cd : Nat) (P : Nat → Int32) (Q : Nat → Int32) (rd : Int32) (b1 : Int32) (b2 : Int32) (b3 : Int32) (b4 : Int32) (b5 : Int32) (b6 : Int32) (b7 : Int32) (b8 : Int32) (hB : shB cI cO L f e0 FA ea bs dn T ft FT V VX VY tn rk wd tw pa pb wh of9 we kd st gb it mn cx cy) (hf0 : f0 < ft) (htn : (tn f0).toInt = 0) (hst : (st f0).toInt = 1) (hwf : ∀ q, lvF ft st tn q → wfM mn cx cy q) (hkn : okN ft st tn kd mn) (hsm : mSm (kd f0).toInt (nN (mn f0)) (cF40 cx f0) (cF40 cy f0)) (hcd : 40 ≤ cd ∧ cd ≤ 1000) (hkd : 1 ≤ (kd f0).toInt ∧ (kd f0).toInt ≤ 5) (hbad : ¬ ((lwM ft st tn kd mn cx cy f0 (nN (mn f0)) (fun i => smv (pI (¬ 5 ≤ (kd f0).toInt ∧ (i = 0 ∨ i = (nN (mn f0)) - 1))) (cF40 cx f0 (prv (nN (mn f0)) i)) (cF40 cx f0 i) (cF40 cx f0 (nxt (nN (mn f0)) i))) (fun i => smv (pI (¬ 5 ≤ (kd f0).toInt ∧ (i = 0 ∨ i = (nN (mn f0)) - 1))) (cF40 cy f0 (prv (nN (mn f0)) i)) (cF40 cy f0 i) (cF40 cy f0 (nxt (nN (mn f0)) i)))) ∧ mvd (nN (mn f0)) (fun i => smv (pI (¬ 5 ≤ (kd f0).toInt ∧ (i = 0 ∨ i = (nN (mn f0)) - 1))) (cF40 cx f0 (prv (nN (mn f0)) i)) (cF40 cx f0 i) (cF40 cx f0 (nxt (nN (mn f0)) i))) (fun i => smv (pI (¬ 5 ≤ (kd f0).toInt ∧ (i = 0 ∨ i = (nN (mn f0)) - 1))) (cF40 cy f0 (prv (nN (mn f0)) i)) (cF40 cy f0 i) (cF40 cy f0 (nxt (nN (mn f0)) i))) (cF40 cx f0) (cF40 cy f0))) : Met l yX10_smooth (.code yX10_smooth cX10_smooth 4 (some .boolean) :: ws0) ({ frames := 6, cells := 0, slots := 0, locals := 155 } : Room) (va_Pc [.ref x, .int (nI f0)] (zPre (dC, dI) classes (zTyO cI cZ cF cO) ([(oc8 x (.ref sh) (.ref lw) (.ref ro) (.ref bq) (.ref bp) (.ref dq) (.ref dp) (.ref lv) (.ref sl) (nI dn) sd ul su), (oc10 sl mc9 (.ref ea) (nI T)), (oc3 lw (.ref dr) (.ref tg) (.ref wy) (.ref br) (.ref bo) (.ref aa)), (oc6 tg (.ref tx) (.ref ty) (nI nt) rt), (oa tx cI 3 TX), (oa ty cI 3 TY), (oc6 wy (.ref wx) (.ref wz) (nI nw) rw), (oa wx cI 2 WX), (oa wz cI 2 WY), (oc6 dr (.ref dx) (.ref dy) (nI nd) rd), (oa dx cI cd P), (oa dy cI cd Q), (oc0 br b1 b2 b3 b4), (oc0 bo b5 b6 b7 b8), (oc7 sh (.ref fa) (nI ft)), (oq fa cF 200 FA)] ++ va_pl L f) sz (zXL e0 mi (va_A ([(oc8 x (.ref sh) (.ref lw) (.ref ro) (.ref bq) (.ref bp) (.ref dq) (.ref dp) (.ref lv) (.ref sl) (nI dn) sd ul su), (oc10 sl mc9 (.ref ea) (nI T)), (oc3 lw (.ref dr) (.ref tg) (.ref wy) (.ref br) (.ref bo) (.ref aa)), (oc6 tg (.ref tx) (.ref ty) (nI nt) rt), (oa tx cI 3 TX), (oa ty cI 3 TY), (oc6 wy (.ref wx) (.ref wz) (nI nw) rw), (oa wx cI 2 WX), (oa wz cI 2 WY), (oc6 dr (.ref dx) (.ref dy) (nI nd) rd), (oa dx cI cd P), (oa dy cI cd Q), (oc0 br b1 b2 b3 b4), (oc0 bo b5 b6 b7 b8), (oc7 sh (.ref fa) (nI ft)), (oq fa cF 200 FA)] ++ va_pl L f) sz)))) (zQ (some (.int 0)) (fun t => ∃ (ul1 : Int32), ∃ (su1 : Int32), ∃ (nt1 : Nat), ∃ (TX1 : Nat → Int32), ∃ (TY1 : Nat → Int32), ∃ (rt1 : Int32), ∃ (nw1 : Nat), ∃ (WX1 : Nat → Int32), ∃ (WY1 : Nat → Int32), ∃ (rw1 : Int32), ∃ (d5 : Int32), ∃ (d6 : Int32), ∃ (d7 : Int32), ∃ (d8 : Int32), ∃ (e5 : Int32), ∃ (e6 : Int32), ∃ (e7 : Int32), ∃ (e8 : Int32), ∃ (P1 : Nat → Int32), ∃ (Q1 : Nat → Int32), va_P (dC, dI) classes ([(oc8 x (.ref sh) (.ref lw) (.ref ro) (.ref bq) (.ref bp) (.ref dq) (.ref dp) (.ref lv) (.ref sl) (nI dn) sd ul1 su1), (oc10 sl mc9 (.ref ea) (nI T)), (oc3 lw (.ref dr) (.ref tg) (.ref wy) (.ref br) (.ref bo) (.ref aa)), (oc6 tg (.ref tx) (.ref ty) (nI nt1) rt1), (oa tx cI 3 TX1), (oa ty cI 3 TY1), (oc6 wy (.ref wx) (.ref wz) (nI nw1) rw1), (oa wx cI 2 WX1), (oa wz cI 2 WY1), (oc6 dr (.ref dx) (.ref dy) (nI (nN (mn f0))) (rgK (kd f0).toInt)), (oa dx cI cd P1), (oa dy cI cd Q1), (oc0 br d5 d6 d7 d8), (oc0 bo e5 e6 e7 e8), (oc7 sh (.ref fa) (nI ft)), (oq fa cF 200 FA)] ++ va_pl L f) t.heap ∧ va_D (va_A ([(oc8 x (.ref sh) (.ref lw) (.ref ro) (.ref bq) (.ref bp) (.ref dq) (.ref dp) (.ref lv) (.ref sl) (nI dn) sd ul su), (oc10 sl mc9 (.ref ea) (nI T)), (oc3 lw (.ref dr) (.ref tg) (.ref wy) (.ref br) (.ref bo) (.ref aa)), (oc6 tg (.ref tx) (.ref ty) (nI nt) rt), (oa tx cI 3 TX), (oa ty cI 3 TY), (oc6 wy (.ref wx) (.ref wz) (nI nw) rw), (oa wx cI 2 WX), (oa wz cI 2 WY), (oc6 dr (.ref dx) (.ref dy) (nI nd) rd), (oa dx cI cd P), (oa dy cI cd Q), (oc0 br b1 b2 b3 b4), (oc0 bo b5 b6 b7 b8), (oc7 sh (.ref fa) (nI ft)), (oq fa cF 200 FA)] ++ va_pl L f) sz) ([(oc8 x (.ref sh) (.ref lw) (.ref ro) (.ref bq) (.ref bp) (.ref dq) (.ref dp) (.ref lv) (.ref sl) (nI dn) sd ul1 su1), (oc10 sl mc9 (.ref ea) (nI T)), (oc3 lw (.ref dr) (.ref tg) (.ref wy) (.ref br) (.ref bo) (.ref aa)), (oc6 tg (.ref tx) (.ref ty) (nI nt1) rt1), (oa tx cI 3 TX1), (oa ty cI 3 TY1), (oc6 wy (.ref wx) (.ref wz) (nI nw1) rw1), (oa wx cI 2 WX1), (oa wz cI 2 WY1), (oc6 dr (.ref dx) (.ref dy) (nI (nN (mn f0))) (rgK (kd f0).toInt)), (oa dx cI cd P1), (oa dy cI cd Q1), (oc0 br d5 d6 d7 d8), (oc0 bo e5 e6 e7 e8), (oc7 sh (.ref fa) (nI ft)), (oq fa cF 200 FA)] ++ va_pl L f)) (va_A ([(oc8 x (.ref sh) (.ref lw) (.ref ro) (.ref bq) (.ref bp) (.ref dq) (.ref dp) (.ref lv) (.ref sl) (nI dn) sd ul su), (oc10 sl mc9 (.ref ea) (nI T)), (oc3 lw (.ref dr) (.ref tg) (.ref wy) (.ref br) (.ref bo) (.ref aa)), (oc6 tg (.ref tx) (.ref ty) (nI nt) rt), (oa tx cI 3 TX), (oa ty cI 3 TY), (oc6 wy (.ref wx) (.ref wz) (nI nw) rw), (oa wx cI 2 WX), (oa wz cI 2 WY), (oc6 dr (.ref dx) (.ref dy) (nI nd) rd), (oa dx cI cd P), (oa dy cI cd Q), (oc0 br b1 b2 b3 b4), (oc0 bo b5 b6 b7 b8), (oc7 sh (.ref fa) (nI ft)), (oq fa cF 200 FA)] ++ va_pl L f) sz)) 0 0 (va_A ([(oc8 x (.ref sh) (.ref lw) (.ref ro) (.ref bq) (.ref bp) (.ref dq) (.ref dp) (.ref lv) (.ref sl) (nI dn) sd ul su), (oc10 sl mc9 (.ref ea) (nI T)), (oc3 lw (.ref dr) (.ref tg) (.ref wy) (.ref br) (.ref bo) (.ref aa)), (oc6 tg (.ref tx) (.ref ty) (nI nt) rt), (oa tx cI 3 TX), (oa ty cI 3 TY), (oc6 wy (.ref wx) (.ref wz) (nI nw) rw), (oa wx cI 2 WX), (oa wz cI 2 WY), (oc6 dr (.ref dx) (.ref dy) (nI nd) rd), (oa dx cI cd P), (oa dy cI cd Q), (oc0 br b1 b2 b3 b4), (oc0 bo b5 b6 b7 b8), (oc7 sh (.ref fa) (nI ft)), (oq fa cF 200 FA)] ++ va_pl L f) sz) := by
  refine Met.ofW (cc := cX10_smooth) (maxL := 4) (ret := (some .boolean)) rfl rfl ?_
  intro p e s m args below meth c s₁ B hml hv
  obtain ⟨rfl, hsz, hP, hK, hD0, hXL⟩ := hv
  have hx := B.exec
  have hb := B.bytes
  have hr := B.returns
  have hts0 := atoms_spec (ws := .code yX10_smooth cX10_smooth 4 (some .boolean) :: ws0) B.pre
  have hts : ∀ w9 ∈ ws0, w9.before ([.ref x, .int (nI f0)] : List Value).toArray s = true := fun w9 h => hts0 w9 (List.mem_cons_of_mem _ h)
  have hown : s.vm.findClass "ScaleShop" = some m.cls := findClass_of_methodNamed B.named
  have hlocks := B.notSynchronized
  subst hsz
  have hD := hD0.self (sz := s.heap.size)
  clear hD0
  generalize hAe : va_A ([(oc8 x (.ref sh) (.ref lw) (.ref ro) (.ref bq) (.ref bp) (.ref dq) (.ref dp) (.ref lv) (.ref sl) (nI dn) sd ul su), (oc10 sl mc9 (.ref ea) (nI T)), (oc3 lw (.ref dr) (.ref tg) (.ref wy) (.ref br) (.ref bo) (.ref aa)), (oc6 tg (.ref tx) (.ref ty) (nI nt) rt), (oa tx cI 3 TX), (oa ty cI 3 TY), (oc6 wy (.ref wx) (.ref wz) (nI nw) rw), (oa wx cI 2 WX), (oa wz cI 2 WY), (oc6 dr (.ref dx) (.ref dy) (nI nd) rd), (oa dx cI cd P), (oa dy cI cd Q), (oc0 br b1 b2 b3 b4), (oc0 bo b5 b6 b7 b8), (oc7 sh (.ref fa) (nI ft)), (oq fa cF 200 FA)] ++ va_pl L f) s.heap.size = A at hD hXL ⊢
  have hA : ∀ q : Nat, s.heap.size ≤ q → A q := fun q h => by rw [← hAe]; exact Or.inr h
  clear hAe
  have hS : va_S A s.heap s.heap [] := va_S.rf
  have hXN := hXL.1
  have hK3 := hK.sub [0, 1, 2] rfl
  have hP : va_P (dC, dI) classes ([(oc8 x (.ref sh) (.ref lw) (.ref ro) (.ref bq) (.ref bp) (.ref dq) (.ref dp) (.ref lv) (.ref sl) (nI dn) sd ul su), (oc10 sl mc9 (.ref ea) (nI T)), (oc3 lw (.ref dr) (.ref tg) (.ref wy) (.ref br) (.ref bo) (.ref aa)), (oc6 tg (.ref tx) (.ref ty) (nI nt) rt), (oa tx cI 3 TX), (oa ty cI 3 TY), (oc6 wy (.ref wx) (.ref wz) (nI nw) rw), (oa wx cI 2 WX), (oa wz cI 2 WY), (oc6 dr (.ref dx) (.ref dy) (nI nd) rd), (oa dx cI cd P), (oa dy cI cd Q), (oc0 br b1 b2 b3 b4), (oc0 bo b5 b6 b7 b8), (oc7 sh (.ref fa) (nI ft)), (oq fa cF 200 FA)] ++ va_pl L f) s.heap := hP
  obtain ⟨Q9, hQ9⟩ : ∃ Q9 : State → Prop, Q9 = MQ below (zQ (some (.int 0)) (fun t => ∃ (ul1 : Int32), ∃ (su1 : Int32), ∃ (nt1 : Nat), ∃ (TX1 : Nat → Int32), ∃ (TY1 : Nat → Int32), ∃ (rt1 : Int32), ∃ (nw1 : Nat), ∃ (WX1 : Nat → Int32), ∃ (WY1 : Nat → Int32), ∃ (rw1 : Int32), ∃ (d5 : Int32), ∃ (d6 : Int32), ∃ (d7 : Int32), ∃ (d8 : Int32), ∃ (e5 : Int32), ∃ (e6 : Int32), ∃ (e7 : Int32), ∃ (e8 : Int32), ∃ (P1 : Nat → Int32), ∃ (Q1 : Nat → Int32), va_P (dC, dI) classes ([(oc8 x (.ref sh) (.ref lw) (.ref ro) (.ref bq) (.ref bp) (.ref dq) (.ref dp) (.ref lv) (.ref sl) (nI dn) sd ul1 su1), (oc10 sl mc9 (.ref ea) (nI T)), (oc3 lw (.ref dr) (.ref tg) (.ref wy) (.ref br) (.ref bo) (.ref aa)), (oc6 tg (.ref tx) (.ref ty) (nI nt1) rt1), (oa tx cI 3 TX1), (oa ty cI 3 TY1), (oc6 wy (.ref wx) (.ref wz) (nI nw1) rw1), (oa wx cI 2 WX1), (oa wz cI 2 WY1), (oc6 dr (.ref dx) (.ref dy) (nI (nN (mn f0))) (rgK (kd f0).toInt)), (oa dx cI cd P1), (oa dy cI cd Q1), (oc0 br d5 d6 d7 d8), (oc0 bo e5 e6 e7 e8), (oc7 sh (.ref fa) (nI ft)), (oq fa cF 200 FA)] ++ va_pl L f) t.heap ∧ va_D A ([(oc8 x (.ref sh) (.ref lw) (.ref ro) (.ref bq) (.ref bp) (.ref dq) (.ref dp) (.ref lv) (.ref sl) (nI dn) sd ul1 su1), (oc10 sl mc9 (.ref ea) (nI T)), (oc3 lw (.ref dr) (.ref tg) (.ref wy) (.ref br) (.ref bo) (.ref aa)), (oc6 tg (.ref tx) (.ref ty) (nI nt1) rt1), (oa tx cI 3 TX1), (oa ty cI 3 TY1), (oc6 wy (.ref wx) (.ref wz) (nI nw1) rw1), (oa wx cI 2 WX1), (oa wz cI 2 WY1), (oc6 dr (.ref dx) (.ref dy) (nI (nN (mn f0))) (rgK (kd f0).toInt)), (oa dx cI cd P1), (oa dy cI cd Q1), (oc0 br d5 d6 d7 d8), (oc0 bo e5 e6 e7 e8), (oc7 sh (.ref fa) (nI ft)), (oq fa cF 200 FA)] ++ va_pl L f)) A) ([.ref x, .int (nI f0)] : List Value).toArray s 0 0 A := ⟨_, rfl⟩
  rw [← hQ9]
  have hl := lv_entry ([.ref x, .int (nI f0)]) (n := 4) (Nat.le_of_ble_eq_true rfl)
  rw [lg_entry_eq]
  generalize (lg_sl ([.ref x, .int (nI f0)]) ++ List.replicate (4 - (lg_sl ([.ref x, .int (nI f0)])).length) Slot.unset).toArray = ls at hl ⊢
  have hl : lv_has ls 4 [(0, .ref x), (1, .int (nI f0))] := hl
  obtain ⟨own, fe, cl, la, sp, SA, hG9, hH9, hft9⟩ := hB
  obtain ⟨hG, hM, hdT, hT5⟩ := M_0 hG9 hH9 hft9
  have h200 : ft ≤ 200 := hG.2.2.2.2.2.1.2.2.2.2.2
  have hFA9 := hG.2.2.2.2.2.2
  obtain ⟨lo5, lx5, ly5, ln5, LX5, LY5, we5, r5, rx5, ry5, cap5, X5, Y5, hc5⟩ := sh_fc hG.1 hG.2.1 (Nat.le_refl _) hf0 htn
  have hc5 := fc_0 hc5
  have hb5 := hc5.2.2.1
  have hb6 := hc5.2.1
  have hlv : lvF ft st tn f0 := ⟨hf0, hst, htn⟩
  have hwf0 := hwf f0 hlv
  have hw1 := hwf0.2.1
  have hkn0 := hkn f0 hlv
  have hX5 := hc5.2.2.2.2.1
  have hc9_1 : inPl L f [(oc1 (fe f0) (rk f0) (wd f0) (tw f0) (pa f0) (pb f0) (.ref lo5) (.ref (la dn f0)) .null), (oc4 (la dn f0) (kd f0) (st f0) (.ref r5) (gb f0) (it f0) (nI we5)), (oc6 r5 (.ref rx5) (.ref ry5) (nI (nN (mn f0))) (rgK (kd f0).toInt)), (oa rx5 cI cap5 X5), (oa ry5 cI cap5 Y5), (oc6 lo5 (.ref lx5) (.ref ly5) (nI ln5) 0), (oa lx5 cI (cl f0) LX5), (oa ly5 cI (cl f0) LY5)] := ⟨ce_pl hc5.1.1, ce_pl hc5.1.2.1, ce_pl hc5.1.2.2.1.1, ce_pl hc5.1.2.2.1.2.1, ce_pl hc5.1.2.2.1.2.2.1, ce_pl hc5.1.2.2.2.1, ce_pl hc5.1.2.2.2.2.1, ce_pl hc5.1.2.2.2.2.2.1, trivial⟩
  have hD0_1 := hD
  obtain ⟨hP, hD⟩ := pl_out hP hD [(oc1 (fe f0) (rk f0) (wd f0) (tw f0) (pa f0) (pb f0) (.ref lo5) (.ref (la dn f0)) .null), (oc4 (la dn f0) (kd f0) (st f0) (.ref r5) (gb f0) (it f0) (nI we5)), (oc6 r5 (.ref rx5) (.ref ry5) (nI (nN (mn f0))) (rgK (kd f0).toInt)), (oa rx5 cI cap5 X5), (oa ry5 cI cap5 Y5), (oc6 lo5 (.ref lx5) (.ref ly5) (nI ln5) 0), (oa lx5 cI (cl f0) LX5), (oa ly5 cI (cl f0) LY5)] hc9_1 (pw8 hc5 (by omega))
  generalize hT_1 : outPl L [(oc1 (fe f0) (rk f0) (wd f0) (tw f0) (pa f0) (pb f0) (.ref lo5) (.ref (la dn f0)) .null), (oc4 (la dn f0) (kd f0) (st f0) (.ref r5) (gb f0) (it f0) (nI we5)), (oc6 r5 (.ref rx5) (.ref ry5) (nI (nN (mn f0))) (rgK (kd f0).toInt)), (oa rx5 cI cap5 X5), (oa ry5 cI cap5 Y5), (oc6 lo5 (.ref lx5) (.ref ly5) (nI ln5) 0), (oa lx5 cI (cl f0) LX5), (oa ly5 cI (cl f0) LY5)] = T_1 at hP hD
  obtain ⟨hP, hD⟩ : zPD (dC, dI) classes A ([(oc8 x (.ref sh) (.ref lw) (.ref ro) (.ref bq) (.ref bp) (.ref dq) (.ref dp) (.ref lv) (.ref sl) (nI dn) sd ul su), (oc10 sl mc9 (.ref ea) (nI T)), (oc3 lw (.ref dr) (.ref tg) (.ref wy) (.ref br) (.ref bo) (.ref aa)), (oc6 tg (.ref tx) (.ref ty) (nI nt) rt), (oa tx cI 3 TX), (oa ty cI 3 TY), (oc6 wy (.ref wx) (.ref wz) (nI nw) rw), (oa wx cI 2 WX), (oa wz cI 2 WY), (oc6 dr (.ref dx) (.ref dy) (nI nd) rd), (oa dx cI cd P), (oa dy cI cd Q), (oc0 br b1 b2 b3 b4), (oc0 bo b5 b6 b7 b8), (oc7 sh (.ref fa) (nI ft)), (oq fa cF 200 FA), (oc1 (fe f0) (rk f0) (wd f0) (tw f0) (pa f0) (pb f0) (.ref lo5) (.ref (la dn f0)) .null), (oc4 (la dn f0) (kd f0) (st f0) (.ref r5) (gb f0) (it f0) (nI we5)), (oc6 r5 (.ref rx5) (.ref ry5) (nI (nN (mn f0))) (rgK (kd f0).toInt)), (oa rx5 cI cap5 X5), (oa ry5 cI cap5 Y5), (oc6 lo5 (.ref lx5) (.ref ly5) (nI ln5) 0), (oa lx5 cI (cl f0) LX5), (oa ly5 cI (cl f0) LY5)] ++ va_pl T_1 f) s.heap := ⟨hP, hD⟩
  refine lv_aload_n hx hb dX10_smooth_0 rfl (lv_at hl 0 rfl) ?_
  refine va_get (D := (dC, dI)) (ci := 8) (v := .ref sh) (C := RX10) (T := TX10) (N := 13) hx hb hts inX10 hown hK hP 0 rfl rfl 0 (Nat.le_of_ble_eq_true rfl) (hts _ mw_309) (fun _ h9 => h9) rfl dX10_smooth_1 ?_
  refine lv_iload_n hx hb dX10_smooth_4 rfl (lv_at hl 1 rfl) ?_
  obtain ⟨hPc, hDc, hFc⟩ := zc_sub (wc := [(oc7 sh (.ref fa) (nI ft)), (oq fa cF 200 FA)]) hP hD hS hA [14, 15] rfl rfl
  refine zcall (st1 := [.ref (fe f0)]) (va_runV (As := [.int (nI f0)]) (rest := []) ⟨hx, hb, hml, hown, hts⟩ (k_Sheet_find l dC dI cI cZ cF s.heap.size sh fa ft FA f0 (fe f0) (by first | with_reducible assumption | omega) (by first | with_reducible assumption | omega) (hFA9 f0 (by first | with_reducible assumption | omega))) (csV_94 hts rfl rfl ⟨Nat.le_of_ble_eq_true rfl, Nat.le_of_ble_eq_true rfl⟩) (zPV2 (q0 := 0) (ci := 7) hPc hDc hK3 hXN rfl rfl) rfl rfl hl.1 rfl (lv_room (Nat.le_of_ble_eq_true rfl)) dX10_smooth_5 ⟨Nat.le_of_ble_eq_true rfl, Nat.le_of_ble_eq_true rfl⟩) hS hFc hFc rfl (fun t H locs ht hB hk1 hS => ?_)
  obtain ⟨hP1, hD1⟩ := hB
  rw [ht] at hP1
  obtain ⟨hP, hD⟩ := zkQ (W2 := [(oc8 x (.ref sh) (.ref lw) (.ref ro) (.ref bq) (.ref bp) (.ref dq) (.ref dp) (.ref lv) (.ref sl) (nI dn) sd ul su), (oc10 sl mc9 (.ref ea) (nI T)), (oc3 lw (.ref dr) (.ref tg) (.ref wy) (.ref br) (.ref bo) (.ref aa)), (oc6 tg (.ref tx) (.ref ty) (nI nt) rt), (oa tx cI 3 TX), (oa ty cI 3 TY), (oc6 wy (.ref wx) (.ref wz) (nI nw) rw), (oa wx cI 2 WX), (oa wz cI 2 WY), (oc6 dr (.ref dx) (.ref dy) (nI nd) rd), (oa dx cI cd P), (oa dy cI cd Q), (oc0 br b1 b2 b3 b4), (oc0 bo b5 b6 b7 b8), (oc7 sh (.ref fa) (nI ft)), (oq fa cF 200 FA), (oc1 (fe f0) (rk f0) (wd f0) (tw f0) (pa f0) (pb f0) (.ref lo5) (.ref (la dn f0)) .null), (oc4 (la dn f0) (kd f0) (st f0) (.ref r5) (gb f0) (it f0) (nI we5)), (oc6 r5 (.ref rx5) (.ref ry5) (nI (nN (mn f0))) (rgK (kd f0).toInt)), (oa rx5 cI cap5 X5), (oa ry5 cI cap5 Y5), (oc6 lo5 (.ref lx5) (.ref ly5) (nI ln5) 0), (oa lx5 cI (cl f0) LX5), (oa ly5 cI (cl f0) LY5)]) hP hD [14, 15] [0, 1, 2, 3, 4, 5, 6, 7, 8, 9, 10, 11, 12, 13, 16, 17, 18, 19, 20, 21, 22, 23] [0, 1, 2, 3, 4, 5, 6, 7, 8, 9, 10, 11, 12, 13, 16, 17, 18, 19, 20, 21, 22, 23] [14, 15] [0, 1, 2, 3, 4, 5, 6, 7, 8, 9, 10, 11, 12, 13, 22, 23, 14, 15, 16, 17, 18, 19, 20, 21] 24 rfl rfl rfl rfl rfl rfl rfl rfl rfl hk1 hFc hP1 hD1
  clear hk1 hPc hDc hFc hP1 hD1 ht
  refine lv_astore_n (lv' := [(2, .ref (fe f0)), (0, .ref x), (1, .int (nI f0))]) hx hb dX10_smooth_8 rfl hl (Nat.le_of_ble_eq_true rfl) rfl (fun ls hl => ?_)
  refine lv_aload_n hx hb dX10_smooth_9 rfl (lv_at hl 0 rfl) ?_
  refine lv_ifnonnull (tgt := 19) hx hb dX10_smooth_10 rfl ?_
  refine lv_aload_n hx hb dX10_smooth_19 rfl (lv_at hl 0 rfl) ?_
  refine va_get (D := (dC, dI)) (ci := 1) (v := .ref (la dn f0)) (C := RX2) (T := TX2) (N := 8) hx hb hts inX2 hown hK hP 16 rfl rfl 6 (Nat.le_of_ble_eq_true rfl) (hts _ mw_433) (fun _ h9 => h9) rfl dX10_smooth_20 ?_
  refine va_get (D := (dC, dI)) (ci := 4) (v := .int (st f0)) (C := RX5) (T := TX5) (N := 6) hx hb hts inX5 hown hK hP 17 rfl rfl 1 (Nat.le_of_ble_eq_true rfl) (hts _ mw_385) (fun _ h9 => h9) rfl dX10_smooth_23 ?_
  refine lv_iconst (v := 1) hx hb dX10_smooth_26 rfl ?_
  refine lv_icmp_eq (tgt := 36) hx hb dX10_smooth_27 rfl (fun c_1 => ?_) (fun c_1 => ?_)
  · have c_1 : (st f0).toInt = 1 := zc_eq rfl rfl c_1
    refine lv_aload_n hx hb dX10_smooth_36 rfl (lv_at hl 0 rfl) ?_
    obtain ⟨hPc, hDc, hFc⟩ := zc_sub (wc := [(oc1 (fe f0) (rk f0) (wd f0) (tw f0) (pa f0) (pb f0) (.ref lo5) (.ref (la dn f0)) .null), (oc4 (la dn f0) (kd f0) (st f0) (.ref r5) (gb f0) (it f0) (nI we5))]) hP hD hS hA [16, 17] rfl rfl
    refine zcall (st1 := [.int (pI (1 ≤ (kd f0).toInt ∧ (kd f0).toInt ≤ 5))]) (va_runV (As := []) (rest := []) ⟨hx, hb, hml, hown, hts⟩ (k_Feature_bends_r l dC dI cI cZ cF H.size (fe f0) lo5 (rk f0) (wd f0) (tw f0) (pa f0) (pb f0) (la dn f0) (kd f0) (st f0) (gb f0) (it f0) (nI we5) r5 ) (csV_97 hts rfl rfl ⟨Nat.le_of_ble_eq_true rfl, Nat.le_of_ble_eq_true rfl⟩) (zPV2 (q0 := 0) (ci := 1) hPc hDc hK3 hXN rfl rfl) rfl rfl hl.1 rfl (lv_room (Nat.le_of_ble_eq_true rfl)) dX10_smooth_37 ⟨Nat.le_of_ble_eq_true rfl, Nat.le_of_ble_eq_true rfl⟩) hS hFc hFc rfl (fun t H locs ht hB hk1 hS => ?_)
    obtain ⟨hP1, hD1⟩ := hB
    rw [ht] at hP1
    obtain ⟨hP, hD⟩ := zkQ (W2 := [(oc8 x (.ref sh) (.ref lw) (.ref ro) (.ref bq) (.ref bp) (.ref dq) (.ref dp) (.ref lv) (.ref sl) (nI dn) sd ul su), (oc10 sl mc9 (.ref ea) (nI T)), (oc3 lw (.ref dr) (.ref tg) (.ref wy) (.ref br) (.ref bo) (.ref aa)), (oc6 tg (.ref tx) (.ref ty) (nI nt) rt), (oa tx cI 3 TX), (oa ty cI 3 TY), (oc6 wy (.ref wx) (.ref wz) (nI nw) rw), (oa wx cI 2 WX), (oa wz cI 2 WY), (oc6 dr (.ref dx) (.ref dy) (nI nd) rd), (oa dx cI cd P), (oa dy cI cd Q), (oc0 br b1 b2 b3 b4), (oc0 bo b5 b6 b7 b8), (oc7 sh (.ref fa) (nI ft)), (oq fa cF 200 FA), (oc1 (fe f0) (rk f0) (wd f0) (tw f0) (pa f0) (pb f0) (.ref lo5) (.ref (la dn f0)) .null), (oc4 (la dn f0) (kd f0) (st f0) (.ref r5) (gb f0) (it f0) (nI we5)), (oc6 r5 (.ref rx5) (.ref ry5) (nI (nN (mn f0))) (rgK (kd f0).toInt)), (oa rx5 cI cap5 X5), (oa ry5 cI cap5 Y5), (oc6 lo5 (.ref lx5) (.ref ly5) (nI ln5) 0), (oa lx5 cI (cl f0) LX5), (oa ly5 cI (cl f0) LY5)]) hP hD [16, 17] [0, 1, 2, 3, 4, 5, 6, 7, 8, 9, 10, 11, 12, 13, 14, 15, 18, 19, 20, 21, 22, 23] [0, 1, 2, 3, 4, 5, 6, 7, 8, 9, 10, 11, 12, 13, 14, 15, 18, 19, 20, 21, 22, 23] [16, 17] [0, 1, 2, 3, 4, 5, 6, 7, 8, 9, 10, 11, 12, 13, 14, 15, 22, 23, 16, 17, 18, 19, 20, 21] 24 rfl rfl rfl rfl rfl rfl rfl rfl rfl hk1 hFc hP1 hD1
    clear hk1 hPc hDc hFc hP1 hD1 ht
    refine lv_if_ne (tgt := 49) hx hb dX10_smooth_40 rfl (fun c_2 => ?_) (fun c_2 => ?_)
    · have c_2 : 1 ≤ (kd f0).toInt ∧ (kd f0).toInt ≤ 5 := zp_1 c_2
      refine lv_aload_n hx hb dX10_smooth_49 rfl (lv_at hl 0 rfl) ?_
      refine va_get (D := (dC, dI)) (ci := 1) (v := .ref (la dn f0)) (C := RX2) (T := TX2) (N := 8) hx hb hts inX2 hown hK hP 16 rfl rfl 6 (Nat.le_of_ble_eq_true rfl) (hts _ mw_433) (fun _ h9 => h9) rfl dX10_smooth_50 ?_
      refine va_get (D := (dC, dI)) (ci := 4) (v := .ref r5) (C := RX5) (T := TX5) (N := 6) hx hb hts inX5 hown hK hP 17 rfl rfl 2 (Nat.le_of_ble_eq_true rfl) (hts _ mw_391) (fun _ h9 => h9) rfl dX10_smooth_53 ?_
      refine lv_astore_n (lv' := [(3, .ref r5), (2, .ref (fe f0)), (0, .ref x), (1, .int (nI f0))]) hx hb dX10_smooth_56 rfl hl (Nat.le_of_ble_eq_true rfl) rfl (fun ls hl => ?_)
      refine lv_aload_n hx hb dX10_smooth_57 rfl (lv_at hl 0 rfl) ?_
      refine lv_ifnonnull (tgt := 67) hx hb dX10_smooth_58 rfl ?_
      refine lv_aload_n hx hb dX10_smooth_67 rfl (lv_at hl 2 rfl) ?_
      refine va_get (D := (dC, dI)) (ci := 8) (v := .ref lw) (C := RX10) (T := TX10) (N := 13) hx hb hts inX10 hown hK hP 0 rfl rfl 1 (Nat.le_of_ble_eq_true rfl) (hts _ mw_310) (fun _ h9 => h9) rfl dX10_smooth_68 ?_
      refine va_get (D := (dC, dI)) (ci := 3) (v := .ref dr) (C := RX4) (T := TX4) (N := 6) hx hb hts inX4 hown hK hP 2 rfl rfl 0 (Nat.le_of_ble_eq_true rfl) (hts _ mw_220) (fun _ h9 => h9) rfl dX10_smooth_71 ?_
      refine lv_aload_n hx hb dX10_smooth_74 rfl (lv_at hl 0 rfl) ?_
      obtain ⟨hPc, hDc, hFc⟩ := zc_sub (wc := [(oc6 dr (.ref dx) (.ref dy) (nI nd) rd), (oa dx cI cd P), (oa dy cI cd Q), (oc6 r5 (.ref rx5) (.ref ry5) (nI (nN (mn f0))) (rgK (kd f0).toInt)), (oa rx5 cI cap5 X5), (oa ry5 cI cap5 Y5)]) hP hD hS hA [9, 10, 11, 18, 19, 20] rfl rfl
      refine zcall (st1 := []) (va_runV (As := [.ref r5]) (rest := []) ⟨hx, hb, hml, hown, hts⟩ (k_Row_smoothFrom l dC dI cI cZ cF H.size dr dx dy nd cd P Q rd r5 rx5 ry5 (nN (mn f0)) cap5 X5 Y5 (rgK (kd f0).toInt) (by first | with_reducible assumption | omega) (by first | with_reducible assumption | omega) (by first | with_reducible assumption | omega) (by first | with_reducible assumption | omega) (rgK_01 _)) (csV_116 hts rfl rfl ⟨Nat.le_of_ble_eq_true rfl, Nat.le_of_ble_eq_true rfl⟩) (zPV2 (q0 := 0) (ci := 6) hPc hDc hK3 hXN rfl rfl) rfl rfl hl.1 rfl (lv_room (Nat.le_of_ble_eq_true rfl)) dX10_smooth_75 ⟨Nat.le_of_ble_eq_true rfl, Nat.le_of_ble_eq_true rfl⟩) hS hFc hFc rfl (fun t H locs ht hB hk1 hS => ?_)
      obtain ⟨P7, Q7, hall7, hP1, hD1⟩ := hB
      rw [ht] at hP1
      obtain ⟨hP, hD⟩ := zkQ (W2 := [(oc8 x (.ref sh) (.ref lw) (.ref ro) (.ref bq) (.ref bp) (.ref dq) (.ref dp) (.ref lv) (.ref sl) (nI dn) sd ul su), (oc10 sl mc9 (.ref ea) (nI T)), (oc3 lw (.ref dr) (.ref tg) (.ref wy) (.ref br) (.ref bo) (.ref aa)), (oc6 tg (.ref tx) (.ref ty) (nI nt) rt), (oa tx cI 3 TX), (oa ty cI 3 TY), (oc6 wy (.ref wx) (.ref wz) (nI nw) rw), (oa wx cI 2 WX), (oa wz cI 2 WY), (oc6 dr (.ref dx) (.ref dy) (nI (nN (mn f0))) (rgK (kd f0).toInt)), (oa dx cI cd P7), (oa dy cI cd Q7), (oc0 br b1 b2 b3 b4), (oc0 bo b5 b6 b7 b8), (oc7 sh (.ref fa) (nI ft)), (oq fa cF 200 FA), (oc1 (fe f0) (rk f0) (wd f0) (tw f0) (pa f0) (pb f0) (.ref lo5) (.ref (la dn f0)) .null), (oc4 (la dn f0) (kd f0) (st f0) (.ref r5) (gb f0) (it f0) (nI we5)), (oc6 r5 (.ref rx5) (.ref ry5) (nI (nN (mn f0))) (rgK (kd f0).toInt)), (oa rx5 cI cap5 X5), (oa ry5 cI cap5 Y5), (oc6 lo5 (.ref lx5) (.ref ly5) (nI ln5) 0), (oa lx5 cI (cl f0) LX5), (oa ly5 cI (cl f0) LY5)]) hP hD [9, 10, 11, 18, 19, 20] [0, 1, 2, 3, 4, 5, 6, 7, 8, 12, 13, 14, 15, 16, 17, 21, 22, 23] [0, 1, 2, 3, 4, 5, 6, 7, 8, 12, 13, 14, 15, 16, 17, 21, 22, 23] [9, 10, 11, 18, 19, 20] [0, 1, 2, 3, 4, 5, 6, 7, 8, 18, 19, 20, 9, 10, 11, 12, 13, 14, 21, 22, 23, 15, 16, 17] 24 rfl rfl rfl rfl rfl rfl rfl rfl rfl hk1 hFc hP1 hD1
      clear hk1 hPc hDc hFc hP1 hD1 ht
      have hv7 : ∀ k, k < nN (mn f0) → P7 k = (fun i => smv (pI (¬ 5 ≤ (kd f0).toInt ∧ (i = 0 ∨ i = (nN (mn f0)) - 1))) (cF40 cx f0 (prv (nN (mn f0)) i)) (cF40 cx f0 i) (cF40 cx f0 (nxt (nN (mn f0)) i))) k ∧ Q7 k = (fun i => smv (pI (¬ 5 ≤ (kd f0).toInt ∧ (i = 0 ∨ i = (nN (mn f0)) - 1))) (cF40 cy f0 (prv (nN (mn f0)) i)) (cF40 cy f0 i) (cF40 cy f0 (nxt (nN (mn f0)) i))) k := fun k hk => ⟨sm_hv hk (fun j hj => (hX5 j hj).1) (hall7 k hk).1, sm_hv hk (fun j hj => (hX5 j hj).2) (hall7 k hk).2⟩
      refine lv_aload_n hx hb dX10_smooth_78 rfl (lv_at hl 2 rfl) ?_
      refine lv_aload_n hx hb dX10_smooth_79 rfl (lv_at hl 1 rfl) ?_
      refine lv_iload_n hx hb dX10_smooth_80 rfl (lv_at hl 3 rfl) ?_
      refine lv_iconst (v := 2) hx hb dX10_smooth_81 rfl ?_
      obtain ⟨hPc, hDc, hFc⟩ := zc_part (cx := [(oc8 x (.ref sh) (.ref lw) (.ref ro) (.ref bq) (.ref bp) (.ref dq) (.ref dp) (.ref lv) (.ref sl) (nI dn) sd ul su), (oc10 sl mc9 (.ref ea) (nI T)), (oc3 lw (.ref dr) (.ref tg) (.ref wy) (.ref br) (.ref bo) (.ref aa)), (oc6 tg (.ref tx) (.ref ty) (nI nt) rt), (oa tx cI 3 TX), (oa ty cI 3 TY), (oc6 wy (.ref wx) (.ref wz) (nI nw) rw), (oa wx cI 2 WX), (oa wz cI 2 WY), (oc6 dr (.ref dx) (.ref dy) (nI (nN (mn f0))) (rgK (kd f0).toInt)), (oa dx cI cd P7), (oa dy cI cd Q7), (oc0 br b1 b2 b3 b4), (oc0 bo b5 b6 b7 b8), (oc1 (fe f0) (rk f0) (wd f0) (tw f0) (pa f0) (pb f0) (.ref lo5) (.ref (la dn f0)) .null), (oc4 (la dn f0) (kd f0) (st f0) (.ref r5) (gb f0) (it f0) (nI we5)), (oc6 r5 (.ref rx5) (.ref ry5) (nI (nN (mn f0))) (rgK (kd f0).toInt)), (oa rx5 cI cap5 X5), (oa ry5 cI cap5 Y5), (oc6 lo5 (.ref lx5) (.ref ly5) (nI ln5) 0), (oa lx5 cI (cl f0) LX5), (oa ly5 cI (cl f0) LY5), (oc7 sh (.ref fa) (nI ft)), (oq fa cF 200 FA)]) hP hD hS hA [0, 1, 2, 3, 4, 5, 6, 7, 8, 9, 10, 11, 12, 13, 16, 17, 18, 19, 20, 21, 22, 23, 14, 15] rfl rfl
      refine zcall (st1 := [.int 0]) (va_runV (As := [.ref (fe f0), .int (nI f0), .int 2]) (rest := []) ⟨hx, hb, hml, hown, hts⟩ (k_moveTo_m_r l dC dI cI cZ cF H.size cO e0 mi x sh lw ro bq bp dq dp lv sl sd ul su ea mc9 fa FA bs dn T ft FT V VX VY tn rk wd tw pa pb wh of9 we kd st gb it mn cx cy T_1 f L f0 own fe cl la sp SA lo5 lx5 ly5 ln5 LX5 LY5 we5 r5 rx5 ry5 cap5 X5 Y5 dr tg wy br bo aa tx ty nt TX TY rt wx wz nw WX WY rw dx dy cd P7 Q7 b1 b2 b3 b4 b5 b6 b7 b8 2 (hG9) (hH9) (hft9) (hc5) (hT_1) (by first | with_reducible assumption | assumption) (by first | with_reducible assumption | assumption) (hst) (hwf) (hkn) (by first | with_reducible assumption | omega) (by have := hkn0; have := hsm.1; omega) (fun h => hbad ⟨((alM_cx hw1.1 hX5).trans (alM_lw (VX := fun i => smv (pI (¬ 5 ≤ (kd f0).toInt ∧ (i = 0 ∨ i = (nN (mn f0)) - 1))) (cF40 cx f0 (prv (nN (mn f0)) i)) (cF40 cx f0 i) (cF40 cx f0 (nxt (nN (mn f0)) i))) (VY := fun i => smv (pI (¬ 5 ≤ (kd f0).toInt ∧ (i = 0 ∨ i = (nN (mn f0)) - 1))) (cF40 cy f0 (prv (nN (mn f0)) i)) (cF40 cy f0 i) (cF40 cy f0 (nxt (nN (mn f0)) i))) (by first | with_reducible assumption | omega) (by first | with_reducible assumption | omega) (hsm.2 (by first | with_reducible assumption | omega)).1 hv7 hwf hkn)).mp h.1, Classical.byContradiction fun g => h.2 ((mv_alk hv7 hX5).mpr g)⟩)) (csV_117 hts rfl rfl ⟨Nat.le_of_ble_eq_true rfl, Nat.le_of_ble_eq_true rfl⟩) (zPVL (q0 := 0) (ci := 8) hPc hDc hK hXL hS hFc rfl rfl) rfl rfl hl.1 rfl (lv_room (Nat.le_of_ble_eq_true rfl)) dX10_smooth_82 ⟨Nat.le_of_ble_eq_true rfl, Nat.le_of_ble_eq_true rfl⟩) hS hFc hFc rfl (fun t H locs ht hB hk1 hS => ?_)
      obtain ⟨ul8, su8, nt8, TX8, TY8, rt8, nw8, WX8, WY8, rw8, g08, g18, g28, g38, g48, g58, g68, g78, hP1, hD1⟩ := hB
      rw [ht] at hP1
      obtain ⟨hP, hD⟩ := zkP (W2 := [(oc8 x (.ref sh) (.ref lw) (.ref ro) (.ref bq) (.ref bp) (.ref dq) (.ref dp) (.ref lv) (.ref sl) (nI dn) sd ul8 su8), (oc10 sl mc9 (.ref ea) (nI T)), (oc3 lw (.ref dr) (.ref tg) (.ref wy) (.ref br) (.ref bo) (.ref aa)), (oc6 tg (.ref tx) (.ref ty) (nI nt8) rt8), (oa tx cI 3 TX8), (oa ty cI 3 TY8), (oc6 wy (.ref wx) (.ref wz) (nI nw8) rw8), (oa wx cI 2 WX8), (oa wz cI 2 WY8), (oc6 dr (.ref dx) (.ref dy) (nI (nN (mn f0))) (rgK (kd f0).toInt)), (oa dx cI cd P7), (oa dy cI cd Q7), (oc0 br g08 g18 g28 g38), (oc0 bo g48 g58 g68 g78), (oc7 sh (.ref fa) (nI ft)), (oq fa cF 200 FA), (oc1 (fe f0) (rk f0) (wd f0) (tw f0) (pa f0) (pb f0) (.ref lo5) (.ref (la dn f0)) .null), (oc4 (la dn f0) (kd f0) (st f0) (.ref r5) (gb f0) (it f0) (nI we5)), (oc6 r5 (.ref rx5) (.ref ry5) (nI (nN (mn f0))) (rgK (kd f0).toInt)), (oa rx5 cI cap5 X5), (oa ry5 cI cap5 Y5), (oc6 lo5 (.ref lx5) (.ref ly5) (nI ln5) 0), (oa lx5 cI (cl f0) LX5), (oa ly5 cI (cl f0) LY5)]) hP hD [0, 1, 2, 3, 4, 5, 6, 7, 8, 9, 10, 11, 12, 13, 16, 17, 18, 19, 20, 21, 22, 23, 14, 15] [] [] [0, 1, 2, 3, 4, 5, 6, 7, 8, 9, 10, 11, 12, 13, 16, 17, 18, 19, 20, 21, 22, 23, 14, 15] [0, 1, 2, 3, 4, 5, 6, 7, 8, 9, 10, 11, 12, 13, 22, 23, 14, 15, 16, 17, 18, 19, 20, 21] 24 rfl rfl rfl rfl rfl rfl rfl rfl rfl hk1 hFc hP1 hD1
      clear hk1 hPc hDc hFc hP1 hD1 ht
      have hP := pl_back (cs := [(oc1 (fe f0) (rk f0) (wd f0) (tw f0) (pa f0) (pb f0) (.ref lo5) (.ref (la dn f0)) .null), (oc4 (la dn f0) (kd f0) (st f0) (.ref r5) (gb f0) (it f0) (nI we5)), (oc6 r5 (.ref rx5) (.ref ry5) (nI (nN (mn f0))) (rgK (kd f0).toInt)), (oa rx5 cI cap5 X5), (oa ry5 cI cap5 Y5), (oc6 lo5 (.ref lx5) (.ref ly5) (nI ln5) 0), (oa lx5 cI (cl f0) LX5), (oa ly5 cI (cl f0) LY5)]) (L := L) (f := f) (X := [(oc8 x (.ref sh) (.ref lw) (.ref ro) (.ref bq) (.ref bp) (.ref dq) (.ref dp) (.ref lv) (.ref sl) (nI dn) sd ul8 su8), (oc10 sl mc9 (.ref ea) (nI T)), (oc3 lw (.ref dr) (.ref tg) (.ref wy) (.ref br) (.ref bo) (.ref aa)), (oc6 tg (.ref tx) (.ref ty) (nI nt8) rt8), (oa tx cI 3 TX8), (oa ty cI 3 TY8), (oc6 wy (.ref wx) (.ref wz) (nI nw8) rw8), (oa wx cI 2 WX8), (oa wz cI 2 WY8), (oc6 dr (.ref dx) (.ref dy) (nI (nN (mn f0))) (rgK (kd f0).toInt)), (oa dx cI cd P7), (oa dy cI cd Q7), (oc0 br g08 g18 g28 g38), (oc0 bo g48 g58 g68 g78), (oc7 sh (.ref fa) (nI ft)), (oq fa cF 200 FA)]) (by rw [hT_1]; exact (show va_P (dC, dI) classes (([(oc8 x (.ref sh) (.ref lw) (.ref ro) (.ref bq) (.ref bp) (.ref dq) (.ref dp) (.ref lv) (.ref sl) (nI dn) sd ul8 su8), (oc10 sl mc9 (.ref ea) (nI T)), (oc3 lw (.ref dr) (.ref tg) (.ref wy) (.ref br) (.ref bo) (.ref aa)), (oc6 tg (.ref tx) (.ref ty) (nI nt8) rt8), (oa tx cI 3 TX8), (oa ty cI 3 TY8), (oc6 wy (.ref wx) (.ref wz) (nI nw8) rw8), (oa wx cI 2 WX8), (oa wz cI 2 WY8), (oc6 dr (.ref dx) (.ref dy) (nI (nN (mn f0))) (rgK (kd f0).toInt)), (oa dx cI cd P7), (oa dy cI cd Q7), (oc0 br g08 g18 g28 g38), (oc0 bo g48 g58 g68 g78), (oc7 sh (.ref fa) (nI ft)), (oq fa cF 200 FA)] ++ [(oc1 (fe f0) (rk f0) (wd f0) (tw f0) (pa f0) (pb f0) (.ref lo5) (.ref (la dn f0)) .null), (oc4 (la dn f0) (kd f0) (st f0) (.ref r5) (gb f0) (it f0) (nI we5)), (oc6 r5 (.ref rx5) (.ref ry5) (nI (nN (mn f0))) (rgK (kd f0).toInt)), (oa rx5 cI cap5 X5), (oa ry5 cI cap5 Y5), (oc6 lo5 (.ref lx5) (.ref ly5) (nI ln5) 0), (oa lx5 cI (cl f0) LX5), (oa ly5 cI (cl f0) LY5)]) ++ va_pl T_1 f) H from hP)) hc9_1
      have hD : va_D A ([(oc8 x (.ref sh) (.ref lw) (.ref ro) (.ref bq) (.ref bp) (.ref dq) (.ref dp) (.ref lv) (.ref sl) (nI dn) sd ul8 su8), (oc10 sl mc9 (.ref ea) (nI T)), (oc3 lw (.ref dr) (.ref tg) (.ref wy) (.ref br) (.ref bo) (.ref aa)), (oc6 tg (.ref tx) (.ref ty) (nI nt8) rt8), (oa tx cI 3 TX8), (oa ty cI 3 TY8), (oc6 wy (.ref wx) (.ref wz) (nI nw8) rw8), (oa wx cI 2 WX8), (oa wz cI 2 WY8), (oc6 dr (.ref dx) (.ref dy) (nI (nN (mn f0))) (rgK (kd f0).toInt)), (oa dx cI cd P7), (oa dy cI cd Q7), (oc0 br g08 g18 g28 g38), (oc0 bo g48 g58 g68 g78), (oc7 sh (.ref fa) (nI ft)), (oq fa cF 200 FA)] ++ va_pl L f) := vaD_ae hD0_1 rfl
      obtain ⟨hP9, hD9⟩ := zq_part (cx := [(oc8 x (.ref sh) (.ref lw) (.ref ro) (.ref bq) (.ref bp) (.ref dq) (.ref dp) (.ref lv) (.ref sl) (nI dn) sd ul8 su8), (oc10 sl mc9 (.ref ea) (nI T)), (oc3 lw (.ref dr) (.ref tg) (.ref wy) (.ref br) (.ref bo) (.ref aa)), (oc6 tg (.ref tx) (.ref ty) (nI nt8) rt8), (oa tx cI 3 TX8), (oa ty cI 3 TY8), (oc6 wy (.ref wx) (.ref wz) (nI nw8) rw8), (oa wx cI 2 WX8), (oa wz cI 2 WY8), (oc6 dr (.ref dx) (.ref dy) (nI (nN (mn f0))) (rgK (kd f0).toInt)), (oa dx cI cd P7), (oa dy cI cd Q7), (oc0 br g08 g18 g28 g38), (oc0 bo g48 g58 g68 g78), (oc7 sh (.ref fa) (nI ft)), (oq fa cF 200 FA)]) hP hD [0, 1, 2, 3, 4, 5, 6, 7, 8, 9, 10, 11, 12, 13, 14, 15] rfl rfl
      rw [hQ9]
      exact W.zret (ty := .boolean) (v := 0) hx hb hr (rfl) (fun t ht hW => ⟨⟨rfl, ul8, su8, nt8, TX8, TY8, rt8, nw8, WX8, WY8, rw8, g08, g18, g28, g38, g48, g58, g68, g78, P7, Q7, by rw [ht]; exact hP9, hD9⟩, hS.F ht⟩) hS.2.2 dX10_smooth_85
    · have c_2 : ¬ (1 ≤ (kd f0).toInt ∧ (kd f0).toInt ≤ 5) := zp_0 c_2
      exfalso; exact absurd hkd (by first | with_reducible assumption | assumption)
  · have c_1 : ¬ (st f0).toInt = 1 := zc_ne rfl rfl c_1
    exfalso; omega
end
section
set_option maxHeartbeats 4000000 in
set_option maxRecDepth 100000 in
theorem k_grow_y (l : Launch) (dC : Nat → ClassId) (dI : Nat → Nat → Nat) (cI cZ cF : ClassId) (sz : Nat) (cO : ClassId) (e0 : Nat) (mi : Nat) (x : Nat) (sh : Nat) (lw : Nat) (ro : Nat) (bq : Nat) (bp : Nat) (dq : Nat) (dp : Nat) (lv : Nat) (sl : Nat) (sd : Int32) (ul : Int32) (su : Int32) (ea : Nat) (mc9 : Int32) (fa : Nat) (FA : Nat → Option Nat) (bs : Nat) (dn : Nat) (T : Nat) (ft : Nat) (FT : Nat → Nat) (V : Nat → Nat → Nat → Int32) (VX : Nat → Nat → Int32) (VY : Nat → Nat → Int32) (tn : Nat → Int32) (rk : Nat → Int32) (wd : Nat → Int32) (tw : Nat → Int32) (pa : Nat → Int32) (pb : Nat → Int32) (wh : Nat → Int32) (of9 : Nat → Int32) (we : Nat → Int32) (kd : Nat → Int32) (st : Nat → Int32) (gb : Nat → Int32) (it : Nat → Int32) (mn : Nat → Int32) (cx : Nat → Int32) (cy : Nat → Int32) (L : List Nat) (f : Nat → va_E) (f0 : Nat) (dr : Nat) (tg : Nat) (wy : Nat) (br : Nat) (bo : Nat) (aa : Nat) (tx : Nat) (ty : Nat) (nt : Nat) (TX : Nat → Int32) (TY : Nat → Int32) (rt : Int32) (wx : Nat) (wz : Nat) (nw : Nat) (WX : Nat → Int32) (WY : Nat → Int32) (rw : Int32) (dx : Nat) (dy : Nat) (nd : Nat) (cd : Nat) (P : Nat → Int32) (Q : Nat → Int32) (rd : Int32) (b1 : Int32) (b2 : Int32) (b3 : Int32) (b4 : Int32) (b5 : Int32) (b6 : Int32) (b7 : Int32) (b8 : Int32) (hB : shB cI cO L f e0 FA ea bs dn T ft FT V VX VY tn rk wd tw pa pb wh of9 we kd st gb it mn cx cy) (hd5 : dn + 1 ≤ 512) (hf0 : f0 < ft) (htn : (tn f0).toInt = 0) (hst : (st f0).toInt = 1) (hwf : ∀ q, lvF ft st tn q → wfM mn cx cy q) (hkn : okN ft st tn kd mn) (hsm : mSm (kd f0).toInt (nN (mn f0)) (cF40 cx f0) (cF40 cy f0)) (hcd : 40 ≤ cd ∧ cd ≤ 1000) (hkd : (kd f0).toInt = 6) (hlaw : lwM ft st tn kd mn cx cy f0 (nN (mn f0)) (fun i => 2 * cF40 cx f0 i - cF40 cx f0 0) (fun i => 2 * cF40 cy f0 i - cF40 cy f0 0)) (hmv : mvd (nN (mn f0)) (fun i => 2 * cF40 cx f0 i - cF40 cx f0 0) (fun i => 2 * cF40 cy f0 i - cF40 cy f0 0) (cF40 cx f0) (cF40 cy f0)) : Met l yX10_grow (.code yX10_grow cX10_grow 4 (some .boolean) :: ws0) ({ frames := 9, cells := ft + 6, slots := 4 * ft + 2 * nN (mn f0) + 815, locals := 205 } : Room) (va_Pc [.ref x, .int (nI f0)] (zPre (dC, dI) classes (zTyO cI cZ cF cO) ([(oc8 x (.ref sh) (.ref lw) (.ref ro) (.ref bq) (.ref bp) (.ref dq) (.ref dp) (.ref lv) (.ref sl) (nI dn) sd ul su), (oc10 sl mc9 (.ref ea) (nI T)), (oc3 lw (.ref dr) (.ref tg) (.ref wy) (.ref br) (.ref bo) (.ref aa)), (oc6 tg (.ref tx) (.ref ty) (nI nt) rt), (oa tx cI 3 TX), (oa ty cI 3 TY), (oc6 wy (.ref wx) (.ref wz) (nI nw) rw), (oa wx cI 2 WX), (oa wz cI 2 WY), (oc6 dr (.ref dx) (.ref dy) (nI nd) rd), (oa dx cI cd P), (oa dy cI cd Q), (oc0 br b1 b2 b3 b4), (oc0 bo b5 b6 b7 b8), (oc7 sh (.ref fa) (nI ft)), (oq fa cF 200 FA)] ++ va_pl L f) sz (zXL e0 mi (va_A ([(oc8 x (.ref sh) (.ref lw) (.ref ro) (.ref bq) (.ref bp) (.ref dq) (.ref dp) (.ref lv) (.ref sl) (nI dn) sd ul su), (oc10 sl mc9 (.ref ea) (nI T)), (oc3 lw (.ref dr) (.ref tg) (.ref wy) (.ref br) (.ref bo) (.ref aa)), (oc6 tg (.ref tx) (.ref ty) (nI nt) rt), (oa tx cI 3 TX), (oa ty cI 3 TY), (oc6 wy (.ref wx) (.ref wz) (nI nw) rw), (oa wx cI 2 WX), (oa wz cI 2 WY), (oc6 dr (.ref dx) (.ref dy) (nI nd) rd), (oa dx cI cd P), (oa dy cI cd Q), (oc0 br b1 b2 b3 b4), (oc0 bo b5 b6 b7 b8), (oc7 sh (.ref fa) (nI ft)), (oq fa cF 200 FA)] ++ va_pl L f) sz)))) (zQ (some (.int 1)) (fun t => ∃ (mc1 : Int32), ∃ (L1 : List Nat), ∃ (f1 : Nat → va_E), ∃ (ea1 : Nat), ∃ (nt1 : Nat), ∃ (TX1 : Nat → Int32), ∃ (TY1 : Nat → Int32), ∃ (rt1 : Int32), ∃ (nw1 : Nat), ∃ (WX1 : Nat → Int32), ∃ (WY1 : Nat → Int32), ∃ (rw1 : Int32), ∃ (d5 : Int32), ∃ (d6 : Int32), ∃ (d7 : Int32), ∃ (d8 : Int32), ∃ (e5 : Int32), ∃ (e6 : Int32), ∃ (e7 : Int32), ∃ (e8 : Int32), ∃ (P1 : Nat → Int32), ∃ (Q1 : Nat → Int32), (shB cI cO L1 f1 e0 FA ea1 bs (dn + 1) (dn + 1) ft (upN FT (dn + 1) ft) (upN V (dn + 1) (vC kd st gb it mn)) (upN VX (dn + 1) (fgX f0 (nN (mn f0)) (fun i => 2 * cF40 cx f0 i - cF40 cx f0 0) cx)) (upN VY (dn + 1) (fgX f0 (nN (mn f0)) (fun i => 2 * cF40 cy f0 i - cF40 cy f0 0) cy)) tn rk wd tw pa pb (upd wh (dn + 1) (4 : Int32)) (upd of9 (dn + 1) (nI f0)) (upd we (dn + 1) (0 : Int32)) kd st gb it mn (fgX f0 (nN (mn f0)) (fun i => 2 * cF40 cx f0 i - cF40 cx f0 0) cx) (fgX f0 (nN (mn f0)) (fun i => 2 * cF40 cy f0 i - cF40 cy f0 0) cy)) ∧ va_P (dC, dI) classes ([(oc8 x (.ref sh) (.ref lw) (.ref ro) (.ref bq) (.ref bp) (.ref dq) (.ref dp) (.ref lv) (.ref sl) (nI (dn + 1)) sd ul 0), (oc10 sl mc1 (.ref ea1) (nI (dn + 1))), (oc3 lw (.ref dr) (.ref tg) (.ref wy) (.ref br) (.ref bo) (.ref aa)), (oc6 tg (.ref tx) (.ref ty) (nI nt1) rt1), (oa tx cI 3 TX1), (oa ty cI 3 TY1), (oc6 wy (.ref wx) (.ref wz) (nI nw1) rw1), (oa wx cI 2 WX1), (oa wz cI 2 WY1), (oc6 dr (.ref dx) (.ref dy) (nI (nN (mn f0))) (rgK (kd f0).toInt)), (oa dx cI cd P1), (oa dy cI cd Q1), (oc0 br d5 d6 d7 d8), (oc0 bo e5 e6 e7 e8), (oc7 sh (.ref fa) (nI ft)), (oq fa cF 200 FA)] ++ va_pl L1 f1) t.heap ∧ va_D (va_A ([(oc8 x (.ref sh) (.ref lw) (.ref ro) (.ref bq) (.ref bp) (.ref dq) (.ref dp) (.ref lv) (.ref sl) (nI dn) sd ul su), (oc10 sl mc9 (.ref ea) (nI T)), (oc3 lw (.ref dr) (.ref tg) (.ref wy) (.ref br) (.ref bo) (.ref aa)), (oc6 tg (.ref tx) (.ref ty) (nI nt) rt), (oa tx cI 3 TX), (oa ty cI 3 TY), (oc6 wy (.ref wx) (.ref wz) (nI nw) rw), (oa wx cI 2 WX), (oa wz cI 2 WY), (oc6 dr (.ref dx) (.ref dy) (nI nd) rd), (oa dx cI cd P), (oa dy cI cd Q), (oc0 br b1 b2 b3 b4), (oc0 bo b5 b6 b7 b8), (oc7 sh (.ref fa) (nI ft)), (oq fa cF 200 FA)] ++ va_pl L f) sz) ([(oc8 x (.ref sh) (.ref lw) (.ref ro) (.ref bq) (.ref bp) (.ref dq) (.ref dp) (.ref lv) (.ref sl) (nI (dn + 1)) sd ul 0), (oc10 sl mc1 (.ref ea1) (nI (dn + 1))), (oc3 lw (.ref dr) (.ref tg) (.ref wy) (.ref br) (.ref bo) (.ref aa)), (oc6 tg (.ref tx) (.ref ty) (nI nt1) rt1), (oa tx cI 3 TX1), (oa ty cI 3 TY1), (oc6 wy (.ref wx) (.ref wz) (nI nw1) rw1), (oa wx cI 2 WX1), (oa wz cI 2 WY1), (oc6 dr (.ref dx) (.ref dy) (nI (nN (mn f0))) (rgK (kd f0).toInt)), (oa dx cI cd P1), (oa dy cI cd Q1), (oc0 br d5 d6 d7 d8), (oc0 bo e5 e6 e7 e8), (oc7 sh (.ref fa) (nI ft)), (oq fa cF 200 FA)] ++ va_pl L1 f1)) (va_A ([(oc8 x (.ref sh) (.ref lw) (.ref ro) (.ref bq) (.ref bp) (.ref dq) (.ref dp) (.ref lv) (.ref sl) (nI dn) sd ul su), (oc10 sl mc9 (.ref ea) (nI T)), (oc3 lw (.ref dr) (.ref tg) (.ref wy) (.ref br) (.ref bo) (.ref aa)), (oc6 tg (.ref tx) (.ref ty) (nI nt) rt), (oa tx cI 3 TX), (oa ty cI 3 TY), (oc6 wy (.ref wx) (.ref wz) (nI nw) rw), (oa wx cI 2 WX), (oa wz cI 2 WY), (oc6 dr (.ref dx) (.ref dy) (nI nd) rd), (oa dx cI cd P), (oa dy cI cd Q), (oc0 br b1 b2 b3 b4), (oc0 bo b5 b6 b7 b8), (oc7 sh (.ref fa) (nI ft)), (oq fa cF 200 FA)] ++ va_pl L f) sz)) (ft + 6) (4 * ft + 2 * nN (mn f0) + 815) (va_A ([(oc8 x (.ref sh) (.ref lw) (.ref ro) (.ref bq) (.ref bp) (.ref dq) (.ref dp) (.ref lv) (.ref sl) (nI dn) sd ul su), (oc10 sl mc9 (.ref ea) (nI T)), (oc3 lw (.ref dr) (.ref tg) (.ref wy) (.ref br) (.ref bo) (.ref aa)), (oc6 tg (.ref tx) (.ref ty) (nI nt) rt), (oa tx cI 3 TX), (oa ty cI 3 TY), (oc6 wy (.ref wx) (.ref wz) (nI nw) rw), (oa wx cI 2 WX), (oa wz cI 2 WY), (oc6 dr (.ref dx) (.ref dy) (nI nd) rd), (oa dx cI cd P), (oa dy cI cd Q), (oc0 br b1 b2 b3 b4), (oc0 bo b5 b6 b7 b8), (oc7 sh (.ref fa) (nI ft)), (oq fa cF 200 FA)] ++ va_pl L f) sz) := by
  refine Met.ofW (cc := cX10_grow) (maxL := 4) (ret := (some .boolean)) rfl rfl ?_
  intro p e s m args below meth c s₁ B hml hv
  obtain ⟨rfl, hsz, hP, hK, hD0, hXL⟩ := hv
  have hx := B.exec
  have hb := B.bytes
  have hr := B.returns
  have hts0 := atoms_spec (ws := .code yX10_grow cX10_grow 4 (some .boolean) :: ws0) B.pre
  have hts : ∀ w9 ∈ ws0, w9.before ([.ref x, .int (nI f0)] : List Value).toArray s = true := fun w9 h => hts0 w9 (List.mem_cons_of_mem _ h)
  have hown : s.vm.findClass "ScaleShop" = some m.cls := findClass_of_methodNamed B.named
  have hlocks := B.notSynchronized
  subst hsz
  have hD := hD0.self (sz := s.heap.size)
  clear hD0
  generalize hAe : va_A ([(oc8 x (.ref sh) (.ref lw) (.ref ro) (.ref bq) (.ref bp) (.ref dq) (.ref dp) (.ref lv) (.ref sl) (nI dn) sd ul su), (oc10 sl mc9 (.ref ea) (nI T)), (oc3 lw (.ref dr) (.ref tg) (.ref wy) (.ref br) (.ref bo) (.ref aa)), (oc6 tg (.ref tx) (.ref ty) (nI nt) rt), (oa tx cI 3 TX), (oa ty cI 3 TY), (oc6 wy (.ref wx) (.ref wz) (nI nw) rw), (oa wx cI 2 WX), (oa wz cI 2 WY), (oc6 dr (.ref dx) (.ref dy) (nI nd) rd), (oa dx cI cd P), (oa dy cI cd Q), (oc0 br b1 b2 b3 b4), (oc0 bo b5 b6 b7 b8), (oc7 sh (.ref fa) (nI ft)), (oq fa cF 200 FA)] ++ va_pl L f) s.heap.size = A at hD hXL ⊢
  have hA : ∀ q : Nat, s.heap.size ≤ q → A q := fun q h => by rw [← hAe]; exact Or.inr h
  clear hAe
  have hS : va_S A s.heap s.heap [] := va_S.rf
  have hXN := hXL.1
  have hK3 := hK.sub [0, 1, 2] rfl
  have hP : va_P (dC, dI) classes ([(oc8 x (.ref sh) (.ref lw) (.ref ro) (.ref bq) (.ref bp) (.ref dq) (.ref dp) (.ref lv) (.ref sl) (nI dn) sd ul su), (oc10 sl mc9 (.ref ea) (nI T)), (oc3 lw (.ref dr) (.ref tg) (.ref wy) (.ref br) (.ref bo) (.ref aa)), (oc6 tg (.ref tx) (.ref ty) (nI nt) rt), (oa tx cI 3 TX), (oa ty cI 3 TY), (oc6 wy (.ref wx) (.ref wz) (nI nw) rw), (oa wx cI 2 WX), (oa wz cI 2 WY), (oc6 dr (.ref dx) (.ref dy) (nI nd) rd), (oa dx cI cd P), (oa dy cI cd Q), (oc0 br b1 b2 b3 b4), (oc0 bo b5 b6 b7 b8), (oc7 sh (.ref fa) (nI ft)), (oq fa cF 200 FA)] ++ va_pl L f) s.heap := hP
  obtain ⟨Q9, hQ9⟩ : ∃ Q9 : State → Prop, Q9 = MQ below (zQ (some (.int 1)) (fun t => ∃ (mc1 : Int32), ∃ (L1 : List Nat), ∃ (f1 : Nat → va_E), ∃ (ea1 : Nat), ∃ (nt1 : Nat), ∃ (TX1 : Nat → Int32), ∃ (TY1 : Nat → Int32), ∃ (rt1 : Int32), ∃ (nw1 : Nat), ∃ (WX1 : Nat → Int32), ∃ (WY1 : Nat → Int32), ∃ (rw1 : Int32), ∃ (d5 : Int32), ∃ (d6 : Int32), ∃ (d7 : Int32), ∃ (d8 : Int32), ∃ (e5 : Int32), ∃ (e6 : Int32), ∃ (e7 : Int32), ∃ (e8 : Int32), ∃ (P1 : Nat → Int32), ∃ (Q1 : Nat → Int32), (shB cI cO L1 f1 e0 FA ea1 bs (dn + 1) (dn + 1) ft (upN FT (dn + 1) ft) (upN V (dn + 1) (vC kd st gb it mn)) (upN VX (dn + 1) (fgX f0 (nN (mn f0)) (fun i => 2 * cF40 cx f0 i - cF40 cx f0 0) cx)) (upN VY (dn + 1) (fgX f0 (nN (mn f0)) (fun i => 2 * cF40 cy f0 i - cF40 cy f0 0) cy)) tn rk wd tw pa pb (upd wh (dn + 1) (4 : Int32)) (upd of9 (dn + 1) (nI f0)) (upd we (dn + 1) (0 : Int32)) kd st gb it mn (fgX f0 (nN (mn f0)) (fun i => 2 * cF40 cx f0 i - cF40 cx f0 0) cx) (fgX f0 (nN (mn f0)) (fun i => 2 * cF40 cy f0 i - cF40 cy f0 0) cy)) ∧ va_P (dC, dI) classes ([(oc8 x (.ref sh) (.ref lw) (.ref ro) (.ref bq) (.ref bp) (.ref dq) (.ref dp) (.ref lv) (.ref sl) (nI (dn + 1)) sd ul 0), (oc10 sl mc1 (.ref ea1) (nI (dn + 1))), (oc3 lw (.ref dr) (.ref tg) (.ref wy) (.ref br) (.ref bo) (.ref aa)), (oc6 tg (.ref tx) (.ref ty) (nI nt1) rt1), (oa tx cI 3 TX1), (oa ty cI 3 TY1), (oc6 wy (.ref wx) (.ref wz) (nI nw1) rw1), (oa wx cI 2 WX1), (oa wz cI 2 WY1), (oc6 dr (.ref dx) (.ref dy) (nI (nN (mn f0))) (rgK (kd f0).toInt)), (oa dx cI cd P1), (oa dy cI cd Q1), (oc0 br d5 d6 d7 d8), (oc0 bo e5 e6 e7 e8), (oc7 sh (.ref fa) (nI ft)), (oq fa cF 200 FA)] ++ va_pl L1 f1) t.heap ∧ va_D A ([(oc8 x (.ref sh) (.ref lw) (.ref ro) (.ref bq) (.ref bp) (.ref dq) (.ref dp) (.ref lv) (.ref sl) (nI (dn + 1)) sd ul 0), (oc10 sl mc1 (.ref ea1) (nI (dn + 1))), (oc3 lw (.ref dr) (.ref tg) (.ref wy) (.ref br) (.ref bo) (.ref aa)), (oc6 tg (.ref tx) (.ref ty) (nI nt1) rt1), (oa tx cI 3 TX1), (oa ty cI 3 TY1), (oc6 wy (.ref wx) (.ref wz) (nI nw1) rw1), (oa wx cI 2 WX1), (oa wz cI 2 WY1), (oc6 dr (.ref dx) (.ref dy) (nI (nN (mn f0))) (rgK (kd f0).toInt)), (oa dx cI cd P1), (oa dy cI cd Q1), (oc0 br d5 d6 d7 d8), (oc0 bo e5 e6 e7 e8), (oc7 sh (.ref fa) (nI ft)), (oq fa cF 200 FA)] ++ va_pl L1 f1)) A) ([.ref x, .int (nI f0)] : List Value).toArray s (ft + 6) (4 * ft + 2 * nN (mn f0) + 815) A := ⟨_, rfl⟩
  rw [← hQ9]
  have hl := lv_entry ([.ref x, .int (nI f0)]) (n := 4) (Nat.le_of_ble_eq_true rfl)
  rw [lg_entry_eq]
  generalize (lg_sl ([.ref x, .int (nI f0)]) ++ List.replicate (4 - (lg_sl ([.ref x, .int (nI f0)])).length) Slot.unset).toArray = ls at hl ⊢
  have hl : lv_has ls 4 [(0, .ref x), (1, .int (nI f0))] := hl
  obtain ⟨own, fe, cl, la, sp, SA, hG9, hH9, hft9⟩ := hB
  obtain ⟨hG, hM, hdT, hT5⟩ := M_0 hG9 hH9 hft9
  have h200 : ft ≤ 200 := hG.2.2.2.2.2.1.2.2.2.2.2
  have hFA9 := hG.2.2.2.2.2.2
  obtain ⟨lo5, lx5, ly5, ln5, LX5, LY5, we5, r5, rx5, ry5, cap5, X5, Y5, hc5⟩ := sh_fc hG.1 hG.2.1 (Nat.le_refl _) hf0 htn
  have hc5 := fc_0 hc5
  have hb5 := hc5.2.2.1
  have hb6 := hc5.2.1
  have hlv : lvF ft st tn f0 := ⟨hf0, hst, htn⟩
  have hwf0 := hwf f0 hlv
  have hw1 := hwf0.2.1
  have hkn0 := hkn f0 hlv
  have hX5 := hc5.2.2.2.2.1
  have hc9_1 : inPl L f [(oc1 (fe f0) (rk f0) (wd f0) (tw f0) (pa f0) (pb f0) (.ref lo5) (.ref (la dn f0)) .null), (oc4 (la dn f0) (kd f0) (st f0) (.ref r5) (gb f0) (it f0) (nI we5)), (oc6 r5 (.ref rx5) (.ref ry5) (nI (nN (mn f0))) (rgK (kd f0).toInt)), (oa rx5 cI cap5 X5), (oa ry5 cI cap5 Y5), (oc6 lo5 (.ref lx5) (.ref ly5) (nI ln5) 0), (oa lx5 cI (cl f0) LX5), (oa ly5 cI (cl f0) LY5)] := ⟨ce_pl hc5.1.1, ce_pl hc5.1.2.1, ce_pl hc5.1.2.2.1.1, ce_pl hc5.1.2.2.1.2.1, ce_pl hc5.1.2.2.1.2.2.1, ce_pl hc5.1.2.2.2.1, ce_pl hc5.1.2.2.2.2.1, ce_pl hc5.1.2.2.2.2.2.1, trivial⟩
  have hD0_1 := hD
  obtain ⟨hP, hD⟩ := pl_out hP hD [(oc1 (fe f0) (rk f0) (wd f0) (tw f0) (pa f0) (pb f0) (.ref lo5) (.ref (la dn f0)) .null), (oc4 (la dn f0) (kd f0) (st f0) (.ref r5) (gb f0) (it f0) (nI we5)), (oc6 r5 (.ref rx5) (.ref ry5) (nI (nN (mn f0))) (rgK (kd f0).toInt)), (oa rx5 cI cap5 X5), (oa ry5 cI cap5 Y5), (oc6 lo5 (.ref lx5) (.ref ly5) (nI ln5) 0), (oa lx5 cI (cl f0) LX5), (oa ly5 cI (cl f0) LY5)] hc9_1 (pw8 hc5 (by omega))
  generalize hT_1 : outPl L [(oc1 (fe f0) (rk f0) (wd f0) (tw f0) (pa f0) (pb f0) (.ref lo5) (.ref (la dn f0)) .null), (oc4 (la dn f0) (kd f0) (st f0) (.ref r5) (gb f0) (it f0) (nI we5)), (oc6 r5 (.ref rx5) (.ref ry5) (nI (nN (mn f0))) (rgK (kd f0).toInt)), (oa rx5 cI cap5 X5), (oa ry5 cI cap5 Y5), (oc6 lo5 (.ref lx5) (.ref ly5) (nI ln5) 0), (oa lx5 cI (cl f0) LX5), (oa ly5 cI (cl f0) LY5)] = T_1 at hP hD
  obtain ⟨hP, hD⟩ : zPD (dC, dI) classes A ([(oc8 x (.ref sh) (.ref lw) (.ref ro) (.ref bq) (.ref bp) (.ref dq) (.ref dp) (.ref lv) (.ref sl) (nI dn) sd ul su), (oc10 sl mc9 (.ref ea) (nI T)), (oc3 lw (.ref dr) (.ref tg) (.ref wy) (.ref br) (.ref bo) (.ref aa)), (oc6 tg (.ref tx) (.ref ty) (nI nt) rt), (oa tx cI 3 TX), (oa ty cI 3 TY), (oc6 wy (.ref wx) (.ref wz) (nI nw) rw), (oa wx cI 2 WX), (oa wz cI 2 WY), (oc6 dr (.ref dx) (.ref dy) (nI nd) rd), (oa dx cI cd P), (oa dy cI cd Q), (oc0 br b1 b2 b3 b4), (oc0 bo b5 b6 b7 b8), (oc7 sh (.ref fa) (nI ft)), (oq fa cF 200 FA), (oc1 (fe f0) (rk f0) (wd f0) (tw f0) (pa f0) (pb f0) (.ref lo5) (.ref (la dn f0)) .null), (oc4 (la dn f0) (kd f0) (st f0) (.ref r5) (gb f0) (it f0) (nI we5)), (oc6 r5 (.ref rx5) (.ref ry5) (nI (nN (mn f0))) (rgK (kd f0).toInt)), (oa rx5 cI cap5 X5), (oa ry5 cI cap5 Y5), (oc6 lo5 (.ref lx5) (.ref ly5) (nI ln5) 0), (oa lx5 cI (cl f0) LX5), (oa ly5 cI (cl f0) LY5)] ++ va_pl T_1 f) s.heap := ⟨hP, hD⟩
  refine lv_aload_n hx hb dX10_grow_0 rfl (lv_at hl 0 rfl) ?_
  refine va_get (D := (dC, dI)) (ci := 8) (v := .ref sh) (C := RX10) (T := TX10) (N := 13) hx hb hts inX10 hown hK hP 0 rfl rfl 0 (Nat.le_of_ble_eq_true rfl) (hts _ mw_309) (fun _ h9 => h9) rfl dX10_grow_1 ?_
  refine lv_iload_n hx hb dX10_grow_4 rfl (lv_at hl 1 rfl) ?_
  obtain ⟨hPc, hDc, hFc⟩ := zc_sub (wc := [(oc7 sh (.ref fa) (nI ft)), (oq fa cF 200 FA)]) hP hD hS hA [14, 15] rfl rfl
  refine zcall (st1 := [.ref (fe f0)]) (va_runV (As := [.int (nI f0)]) (rest := []) ⟨hx, hb, hml, hown, hts⟩ (k_Sheet_find l dC dI cI cZ cF s.heap.size sh fa ft FA f0 (fe f0) (by first | with_reducible assumption | omega) (by first | with_reducible assumption | omega) (hFA9 f0 (by first | with_reducible assumption | omega))) (csV_94 hts rfl rfl ⟨Nat.le_of_ble_eq_true rfl, Nat.le_of_ble_eq_true rfl⟩) (zPV2 (q0 := 0) (ci := 7) hPc hDc hK3 hXN rfl rfl) rfl rfl hl.1 rfl (lv_room (Nat.le_of_ble_eq_true rfl)) dX10_grow_5 ⟨show 0 ≤ ft + 6 by omega, show 0 ≤ 4 * ft + 2 * nN (mn f0) + 815 by omega⟩) hS hFc hFc rfl (fun t H locs ht hB hk1 hS => ?_)
  obtain ⟨hP1, hD1⟩ := hB
  rw [ht] at hP1
  obtain ⟨hP, hD⟩ := zkQ (W2 := [(oc8 x (.ref sh) (.ref lw) (.ref ro) (.ref bq) (.ref bp) (.ref dq) (.ref dp) (.ref lv) (.ref sl) (nI dn) sd ul su), (oc10 sl mc9 (.ref ea) (nI T)), (oc3 lw (.ref dr) (.ref tg) (.ref wy) (.ref br) (.ref bo) (.ref aa)), (oc6 tg (.ref tx) (.ref ty) (nI nt) rt), (oa tx cI 3 TX), (oa ty cI 3 TY), (oc6 wy (.ref wx) (.ref wz) (nI nw) rw), (oa wx cI 2 WX), (oa wz cI 2 WY), (oc6 dr (.ref dx) (.ref dy) (nI nd) rd), (oa dx cI cd P), (oa dy cI cd Q), (oc0 br b1 b2 b3 b4), (oc0 bo b5 b6 b7 b8), (oc7 sh (.ref fa) (nI ft)), (oq fa cF 200 FA), (oc1 (fe f0) (rk f0) (wd f0) (tw f0) (pa f0) (pb f0) (.ref lo5) (.ref (la dn f0)) .null), (oc4 (la dn f0) (kd f0) (st f0) (.ref r5) (gb f0) (it f0) (nI we5)), (oc6 r5 (.ref rx5) (.ref ry5) (nI (nN (mn f0))) (rgK (kd f0).toInt)), (oa rx5 cI cap5 X5), (oa ry5 cI cap5 Y5), (oc6 lo5 (.ref lx5) (.ref ly5) (nI ln5) 0), (oa lx5 cI (cl f0) LX5), (oa ly5 cI (cl f0) LY5)]) hP hD [14, 15] [0, 1, 2, 3, 4, 5, 6, 7, 8, 9, 10, 11, 12, 13, 16, 17, 18, 19, 20, 21, 22, 23] [0, 1, 2, 3, 4, 5, 6, 7, 8, 9, 10, 11, 12, 13, 16, 17, 18, 19, 20, 21, 22, 23] [14, 15] [0, 1, 2, 3, 4, 5, 6, 7, 8, 9, 10, 11, 12, 13, 22, 23, 14, 15, 16, 17, 18, 19, 20, 21] 24 rfl rfl rfl rfl rfl rfl rfl rfl rfl hk1 hFc hP1 hD1
  clear hk1 hPc hDc hFc hP1 hD1 ht
  refine lv_astore_n (lv' := [(2, .ref (fe f0)), (0, .ref x), (1, .int (nI f0))]) hx hb dX10_grow_8 rfl hl (Nat.le_of_ble_eq_true rfl) rfl (fun ls hl => ?_)
  refine lv_aload_n hx hb dX10_grow_9 rfl (lv_at hl 0 rfl) ?_
  refine lv_ifnonnull (tgt := 19) hx hb dX10_grow_10 rfl ?_
  refine lv_aload_n hx hb dX10_grow_19 rfl (lv_at hl 0 rfl) ?_
  refine va_get (D := (dC, dI)) (ci := 1) (v := .ref (la dn f0)) (C := RX2) (T := TX2) (N := 8) hx hb hts inX2 hown hK hP 16 rfl rfl 6 (Nat.le_of_ble_eq_true rfl) (hts _ mw_433) (fun _ h9 => h9) rfl dX10_grow_20 ?_
  refine va_get (D := (dC, dI)) (ci := 4) (v := .int (st f0)) (C := RX5) (T := TX5) (N := 6) hx hb hts inX5 hown hK hP 17 rfl rfl 1 (Nat.le_of_ble_eq_true rfl) (hts _ mw_385) (fun _ h9 => h9) rfl dX10_grow_23 ?_
  refine lv_iconst (v := 1) hx hb dX10_grow_26 rfl ?_
  refine lv_icmp_eq (tgt := 36) hx hb dX10_grow_27 rfl (fun c_1 => ?_) (fun c_1 => ?_)
  · have c_1 : (st f0).toInt = 1 := zc_eq rfl rfl c_1
    refine lv_aload_n hx hb dX10_grow_36 rfl (lv_at hl 0 rfl) ?_
    refine va_get (D := (dC, dI)) (ci := 1) (v := .ref (la dn f0)) (C := RX2) (T := TX2) (N := 8) hx hb hts inX2 hown hK hP 16 rfl rfl 6 (Nat.le_of_ble_eq_true rfl) (hts _ mw_433) (fun _ h9 => h9) rfl dX10_grow_37 ?_
    refine va_get (D := (dC, dI)) (ci := 4) (v := .int (kd f0)) (C := RX5) (T := TX5) (N := 6) hx hb hts inX5 hown hK hP 17 rfl rfl 0 (Nat.le_of_ble_eq_true rfl) (hts _ mw_381) (fun _ h9 => h9) rfl dX10_grow_40 ?_
    refine lv_bipush (v := 6) hx hb dX10_grow_43 rfl ?_
    refine lv_icmp_eq (tgt := 54) hx hb dX10_grow_45 rfl (fun c_2 => ?_) (fun c_2 => ?_)
    · have c_2 : (kd f0).toInt = 6 := zc_eq rfl rfl c_2
      refine lv_aload_n hx hb dX10_grow_54 rfl (lv_at hl 0 rfl) ?_
      refine va_get (D := (dC, dI)) (ci := 1) (v := .ref (la dn f0)) (C := RX2) (T := TX2) (N := 8) hx hb hts inX2 hown hK hP 16 rfl rfl 6 (Nat.le_of_ble_eq_true rfl) (hts _ mw_433) (fun _ h9 => h9) rfl dX10_grow_55 ?_
      refine va_get (D := (dC, dI)) (ci := 4) (v := .ref r5) (C := RX5) (T := TX5) (N := 6) hx hb hts inX5 hown hK hP 17 rfl rfl 2 (Nat.le_of_ble_eq_true rfl) (hts _ mw_391) (fun _ h9 => h9) rfl dX10_grow_58 ?_
      refine lv_astore_n (lv' := [(3, .ref r5), (2, .ref (fe f0)), (0, .ref x), (1, .int (nI f0))]) hx hb dX10_grow_61 rfl hl (Nat.le_of_ble_eq_true rfl) rfl (fun ls hl => ?_)
      refine lv_aload_n hx hb dX10_grow_62 rfl (lv_at hl 0 rfl) ?_
      refine lv_ifnonnull (tgt := 72) hx hb dX10_grow_63 rfl ?_
      refine lv_aload_n hx hb dX10_grow_72 rfl (lv_at hl 2 rfl) ?_
      refine va_get (D := (dC, dI)) (ci := 8) (v := .ref lw) (C := RX10) (T := TX10) (N := 13) hx hb hts inX10 hown hK hP 0 rfl rfl 1 (Nat.le_of_ble_eq_true rfl) (hts _ mw_310) (fun _ h9 => h9) rfl dX10_grow_73 ?_
      refine va_get (D := (dC, dI)) (ci := 3) (v := .ref dr) (C := RX4) (T := TX4) (N := 6) hx hb hts inX4 hown hK hP 2 rfl rfl 0 (Nat.le_of_ble_eq_true rfl) (hts _ mw_220) (fun _ h9 => h9) rfl dX10_grow_76 ?_
      refine lv_aload_n hx hb dX10_grow_79 rfl (lv_at hl 0 rfl) ?_
      obtain ⟨hPc, hDc, hFc⟩ := zc_sub (wc := [(oc6 dr (.ref dx) (.ref dy) (nI nd) rd), (oa dx cI cd P), (oa dy cI cd Q), (oc6 r5 (.ref rx5) (.ref ry5) (nI (nN (mn f0))) (rgK (kd f0).toInt)), (oa rx5 cI cap5 X5), (oa ry5 cI cap5 Y5)]) hP hD hS hA [9, 10, 11, 18, 19, 20] rfl rfl
      refine zcall (st1 := []) (va_runV (As := [.ref r5]) (rest := []) ⟨hx, hb, hml, hown, hts⟩ (k_Row_doubleFrom l dC dI cI cZ cF H.size dr dx dy nd cd P Q rd r5 rx5 ry5 (nN (mn f0)) cap5 X5 Y5 (rgK (kd f0).toInt) (by first | with_reducible assumption | omega) (by first | with_reducible assumption | omega) (by first | with_reducible assumption | omega) (by first | with_reducible assumption | omega) (rgK_01 _)) (csV_118 hts rfl rfl ⟨Nat.le_of_ble_eq_true rfl, Nat.le_of_ble_eq_true rfl⟩) (zPV2 (q0 := 0) (ci := 6) hPc hDc hK3 hXN rfl rfl) rfl rfl hl.1 rfl (lv_room (Nat.le_of_ble_eq_true rfl)) dX10_grow_80 ⟨show 0 ≤ ft + 6 by omega, show 0 ≤ 4 * ft + 2 * nN (mn f0) + 815 by omega⟩) hS hFc hFc rfl (fun t H locs ht hB hk1 hS => ?_)
      obtain ⟨P7, Q7, hall7, hP1, hD1⟩ := hB
      rw [ht] at hP1
      obtain ⟨hP, hD⟩ := zkQ (W2 := [(oc8 x (.ref sh) (.ref lw) (.ref ro) (.ref bq) (.ref bp) (.ref dq) (.ref dp) (.ref lv) (.ref sl) (nI dn) sd ul su), (oc10 sl mc9 (.ref ea) (nI T)), (oc3 lw (.ref dr) (.ref tg) (.ref wy) (.ref br) (.ref bo) (.ref aa)), (oc6 tg (.ref tx) (.ref ty) (nI nt) rt), (oa tx cI 3 TX), (oa ty cI 3 TY), (oc6 wy (.ref wx) (.ref wz) (nI nw) rw), (oa wx cI 2 WX), (oa wz cI 2 WY), (oc6 dr (.ref dx) (.ref dy) (nI (nN (mn f0))) (rgK (kd f0).toInt)), (oa dx cI cd P7), (oa dy cI cd Q7), (oc0 br b1 b2 b3 b4), (oc0 bo b5 b6 b7 b8), (oc7 sh (.ref fa) (nI ft)), (oq fa cF 200 FA), (oc1 (fe f0) (rk f0) (wd f0) (tw f0) (pa f0) (pb f0) (.ref lo5) (.ref (la dn f0)) .null), (oc4 (la dn f0) (kd f0) (st f0) (.ref r5) (gb f0) (it f0) (nI we5)), (oc6 r5 (.ref rx5) (.ref ry5) (nI (nN (mn f0))) (rgK (kd f0).toInt)), (oa rx5 cI cap5 X5), (oa ry5 cI cap5 Y5), (oc6 lo5 (.ref lx5) (.ref ly5) (nI ln5) 0), (oa lx5 cI (cl f0) LX5), (oa ly5 cI (cl f0) LY5)]) hP hD [9, 10, 11, 18, 19, 20] [0, 1, 2, 3, 4, 5, 6, 7, 8, 12, 13, 14, 15, 16, 17, 21, 22, 23] [0, 1, 2, 3, 4, 5, 6, 7, 8, 12, 13, 14, 15, 16, 17, 21, 22, 23] [9, 10, 11, 18, 19, 20] [0, 1, 2, 3, 4, 5, 6, 7, 8, 18, 19, 20, 9, 10, 11, 12, 13, 14, 21, 22, 23, 15, 16, 17] 24 rfl rfl rfl rfl rfl rfl rfl rfl rfl hk1 hFc hP1 hD1
      clear hk1 hPc hDc hFc hP1 hD1 ht
      have hv7 : ∀ k, k < nN (mn f0) → P7 k = (fun i => 2 * cF40 cx f0 i - cF40 cx f0 0) k ∧ Q7 k = (fun i => 2 * cF40 cy f0 i - cF40 cy f0 0) k := fun k hk => by rw [(hall7 k hk).1, (hall7 k hk).2, (hX5 k hk).1, (hX5 k hk).2, (hX5 0 (by omega)).1, (hX5 0 (by omega)).2]; exact ⟨rfl, rfl⟩
      refine lv_aload_n hx hb dX10_grow_83 rfl (lv_at hl 2 rfl) ?_
      refine lv_aload_n hx hb dX10_grow_84 rfl (lv_at hl 1 rfl) ?_
      refine lv_iload_n hx hb dX10_grow_85 rfl (lv_at hl 3 rfl) ?_
      refine lv_iconst (v := 4) hx hb dX10_grow_86 rfl ?_
      obtain ⟨hPc, hDc, hFc⟩ := zc_part (cx := [(oc8 x (.ref sh) (.ref lw) (.ref ro) (.ref bq) (.ref bp) (.ref dq) (.ref dp) (.ref lv) (.ref sl) (nI dn) sd ul su), (oc10 sl mc9 (.ref ea) (nI T)), (oc3 lw (.ref dr) (.ref tg) (.ref wy) (.ref br) (.ref bo) (.ref aa)), (oc6 tg (.ref tx) (.ref ty) (nI nt) rt), (oa tx cI 3 TX), (oa ty cI 3 TY), (oc6 wy (.ref wx) (.ref wz) (nI nw) rw), (oa wx cI 2 WX), (oa wz cI 2 WY), (oc6 dr (.ref dx) (.ref dy) (nI (nN (mn f0))) (rgK (kd f0).toInt)), (oa dx cI cd P7), (oa dy cI cd Q7), (oc0 br b1 b2 b3 b4), (oc0 bo b5 b6 b7 b8), (oc1 (fe f0) (rk f0) (wd f0) (tw f0) (pa f0) (pb f0) (.ref lo5) (.ref (la dn f0)) .null), (oc4 (la dn f0) (kd f0) (st f0) (.ref r5) (gb f0) (it f0) (nI we5)), (oc6 r5 (.ref rx5) (.ref ry5) (nI (nN (mn f0))) (rgK (kd f0).toInt)), (oa rx5 cI cap5 X5), (oa ry5 cI cap5 Y5), (oc6 lo5 (.ref lx5) (.ref ly5) (nI ln5) 0), (oa lx5 cI (cl f0) LX5), (oa ly5 cI (cl f0) LY5), (oc7 sh (.ref fa) (nI ft)), (oq fa cF 200 FA)]) hP hD hS hA [0, 1, 2, 3, 4, 5, 6, 7, 8, 9, 10, 11, 12, 13, 16, 17, 18, 19, 20, 21, 22, 23, 14, 15] rfl rfl
      refine zcall (st1 := [.int 1]) (va_runV (As := [.ref (fe f0), .int (nI f0), .int 4]) (rest := []) ⟨hx, hb, hml, hown, hts⟩ (k_moveTo_m_y l dC dI cI cZ cF H.size cO e0 mi x sh lw ro bq bp dq dp lv sl sd ul su ea mc9 fa FA bs dn T ft FT V VX VY tn rk wd tw pa pb wh of9 we kd st gb it mn cx cy T_1 f L f0 own fe cl la sp SA lo5 lx5 ly5 ln5 LX5 LY5 we5 r5 rx5 ry5 cap5 X5 Y5 dr tg wy br bo aa tx ty nt TX TY rt wx wz nw WX WY rw dx dy cd P7 Q7 b1 b2 b3 b4 b5 b6 b7 b8 4 (fgX f0 (nN (mn f0)) (fun i => 2 * cF40 cx f0 i - cF40 cx f0 0) cx) (fgX f0 (nN (mn f0)) (fun i => 2 * cF40 cy f0 i - cF40 cy f0 0) cy) (hG9) (hH9) (hft9) (hc5) (hT_1) (by first | with_reducible assumption | assumption) (by first | with_reducible assumption | assumption) (hst) (hwf) (hkn) (by first | with_reducible assumption | omega) (by have := hkn0; have := hsm.1; omega) (by first | with_reducible assumption | omega) (((alM_cx hw1.1 hX5).trans (alM_lw (VX := fun i => 2 * cF40 cx f0 i - cF40 cx f0 0) (VY := fun i => 2 * cF40 cy f0 i - cF40 cy f0 0) (by first | with_reducible assumption | omega) (by first | with_reducible assumption | omega) (hsm.2 (by first | with_reducible assumption | omega)).1 hv7 hwf hkn)).mpr hlaw) (fun h => absurd hmv ((mv_alk hv7 hX5).mp h)) (fun k hk => by rw [fgX_f k hk, fgX_f k hk]; exact hv7 k hk) (fun j hj => ⟨fgX_o (by first | with_reducible assumption | omega), fgX_o (by first | with_reducible assumption | omega)⟩)) (csV_117 hts rfl rfl ⟨Nat.le_of_ble_eq_true rfl, Nat.le_of_ble_eq_true rfl⟩) (zPVL (q0 := 0) (ci := 8) hPc hDc hK hXL hS hFc rfl rfl) rfl rfl hl.1 rfl (lv_room (Nat.le_of_ble_eq_true rfl)) dX10_grow_87 ⟨show (0 + (ft + 6)) ≤ ft + 6 by omega, show (0 + (4 * ft + 2 * nN (mn f0) + 815)) ≤ 4 * ft + 2 * nN (mn f0) + 815 by omega⟩) hS hFc hFc rfl (fun t H locs ht hB hk1 hS => ?_)
      obtain ⟨mc8, L8, f8, ea8, nt8, TX8, TY8, rt8, nw8, WX8, WY8, rw8, g08, g18, g28, g38, g48, g58, g68, g78, hB6, hP1, hD1⟩ := hB
      rw [ht] at hP1
      obtain ⟨hP, hD⟩ := zkP (W2 := [(oc8 x (.ref sh) (.ref lw) (.ref ro) (.ref bq) (.ref bp) (.ref dq) (.ref dp) (.ref lv) (.ref sl) (nI (dn + 1)) sd ul 0), (oc10 sl mc8 (.ref ea8) (nI (dn + 1))), (oc3 lw (.ref dr) (.ref tg) (.ref wy) (.ref br) (.ref bo) (.ref aa)), (oc6 tg (.ref tx) (.ref ty) (nI nt8) rt8), (oa tx cI 3 TX8), (oa ty cI 3 TY8), (oc6 wy (.ref wx) (.ref wz) (nI nw8) rw8), (oa wx cI 2 WX8), (oa wz cI 2 WY8), (oc6 dr (.ref dx) (.ref dy) (nI (nN (mn f0))) (rgK (kd f0).toInt)), (oa dx cI cd P7), (oa dy cI cd Q7), (oc0 br g08 g18 g28 g38), (oc0 bo g48 g58 g68 g78), (oc7 sh (.ref fa) (nI ft)), (oq fa cF 200 FA)]) hP hD [0, 1, 2, 3, 4, 5, 6, 7, 8, 9, 10, 11, 12, 13, 16, 17, 18, 19, 20, 21, 22, 23, 14, 15] [] [] [0, 1, 2, 3, 4, 5, 6, 7, 8, 9, 10, 11, 12, 13, 14, 15] [0, 1, 2, 3, 4, 5, 6, 7, 8, 9, 10, 11, 12, 13, 14, 15] 16 rfl rfl rfl rfl rfl rfl rfl rfl rfl hk1 hFc hP1 hD1
      clear hk1 hPc hDc hFc hP1 hD1 ht
      obtain ⟨hP9, hD9⟩ := zq_part (cx := [(oc8 x (.ref sh) (.ref lw) (.ref ro) (.ref bq) (.ref bp) (.ref dq) (.ref dp) (.ref lv) (.ref sl) (nI (dn + 1)) sd ul 0), (oc10 sl mc8 (.ref ea8) (nI (dn + 1))), (oc3 lw (.ref dr) (.ref tg) (.ref wy) (.ref br) (.ref bo) (.ref aa)), (oc6 tg (.ref tx) (.ref ty) (nI nt8) rt8), (oa tx cI 3 TX8), (oa ty cI 3 TY8), (oc6 wy (.ref wx) (.ref wz) (nI nw8) rw8), (oa wx cI 2 WX8), (oa wz cI 2 WY8), (oc6 dr (.ref dx) (.ref dy) (nI (nN (mn f0))) (rgK (kd f0).toInt)), (oa dx cI cd P7), (oa dy cI cd Q7), (oc0 br g08 g18 g28 g38), (oc0 bo g48 g58 g68 g78), (oc7 sh (.ref fa) (nI ft)), (oq fa cF 200 FA)]) hP hD [0, 1, 2, 3, 4, 5, 6, 7, 8, 9, 10, 11, 12, 13, 14, 15] rfl rfl
      refine W.widen (k := ft + 6) (n := 4 * ft + 2 * nN (mn f0) + 815) (by omega) (by omega) ?_
      rw [hQ9]
      exact W.zret (ty := .boolean) (v := 1) hx hb hr (rfl) (fun t ht hW => ⟨⟨rfl, mc8, L8, f8, ea8, nt8, TX8, TY8, rt8, nw8, WX8, WY8, rw8, g08, g18, g28, g38, g48, g58, g68, g78, P7, Q7, (hB6), by rw [ht]; exact hP9, hD9⟩, hS.F ht⟩) hS.2.2 dX10_grow_90
    · have c_2 : ¬ (kd f0).toInt = 6 := zc_ne rfl rfl c_2
      exfalso; omega
  · have c_1 : ¬ (st f0).toInt = 1 := zc_ne rfl rfl c_1
    exfalso; omega
set_option maxHeartbeats 4000000 in
set_option maxRecDepth 100000 in
theorem k_grow_n (l : Launch) (dC : Nat → ClassId) (dI : Nat → Nat → Nat) (cI cZ cF : ClassId) (sz : Nat) (cO : ClassId) (e0 : Nat) (mi : Nat) (x : Nat) (sh : Nat) (lw : Nat) (ro : Nat) (bq : Nat) (bp : Nat) (dq : Nat) (dp : Nat) (lv : Nat) (sl : Nat) (sd : Int32) (ul : Int32) (su : Int32) (ea : Nat) (mc9 : Int32) (fa : Nat) (FA : Nat → Option Nat) (bs : Nat) (dn : Nat) (T : Nat) (ft : Nat) (FT : Nat → Nat) (V : Nat → Nat → Nat → Int32) (VX : Nat → Nat → Int32) (VY : Nat → Nat → Int32) (tn : Nat → Int32) (rk : Nat → Int32) (wd : Nat → Int32) (tw : Nat → Int32) (pa : Nat → Int32) (pb : Nat → Int32) (wh : Nat → Int32) (of9 : Nat → Int32) (we : Nat → Int32) (kd : Nat → Int32) (st : Nat → Int32) (gb : Nat → Int32) (it : Nat → Int32) (mn : Nat → Int32) (cx : Nat → Int32) (cy : Nat → Int32) (L : List Nat) (f : Nat → va_E) (f0 : Nat) (dr : Nat) (tg : Nat) (wy : Nat) (br : Nat) (bo : Nat) (aa : Nat) (tx : Nat) (ty : Nat) (nt : Nat) (TX : Nat → Int32) (TY : Nat → Int32) (rt : Int32) (wx : Nat) (wz : Nat) (nw : Nat) (WX : Nat → Int32) (WY : Nat → Int32) (rw : Int32) (dx : Nat) (dy : Nat) (nd : Nat) (cd : Nat) (P : Nat → Int32) (Q : Nat → Int32) (rd : Int32) (b1 : Int32) (b2 : Int32) (b3 : Int32) (b4 : Int32) (b5 : Int32) (b6 : Int32) (b7 : Int32) (b8 : Int32) (hB : shB cI cO L f e0 FA ea bs dn T ft FT V VX VY tn rk wd tw pa pb wh of9 we kd st gb it mn cx cy) (hf0 : f0 < ft) (htn : (tn f0).toInt = 0) (hst : (st f0).toInt = 1) (hwf : ∀ q, lvF ft st tn q → wfM mn cx cy q) (hkn : okN ft st tn kd mn) (hsm : mSm (kd f0).toInt (nN (mn f0)) (cF40 cx f0) (cF40 cy f0)) (hcd : 40 ≤ cd ∧ cd ≤ 1000) (hkd : (kd f0).toInt = 6) (hbad : ¬ ((lwM ft st tn kd mn cx cy f0 (nN (mn f0)) (fun i => 2 * cF40 cx f0 i - cF40 cx f0 0) (fun i => 2 * cF40 cy f0 i - cF40 cy f0 0)) ∧ mvd (nN (mn f0)) (fun i => 2 * cF40 cx f0 i - cF40 cx f0 0) (fun i => 2 * cF40 cy f0 i - cF40 cy f0 0) (cF40 cx f0) (cF40 cy f0))) : Met l yX10_grow (.code yX10_grow cX10_grow 4 (some .boolean) :: ws0) ({ frames := 6, cells := 0, slots := 0, locals := 155 } : Room) (va_Pc [.ref x, .int (nI f0)] (zPre (dC, dI) classes (zTyO cI cZ cF cO) ([(oc8 x (.ref sh) (.ref lw) (.ref ro) (.ref bq) (.ref bp) (.ref dq) (.ref dp) (.ref lv) (.ref sl) (nI dn) sd ul su), (oc10 sl mc9 (.ref ea) (nI T)), (oc3 lw (.ref dr) (.ref tg) (.ref wy) (.ref br) (.ref bo) (.ref aa)), (oc6 tg (.ref tx) (.ref ty) (nI nt) rt), (oa tx cI 3 TX), (oa ty cI 3 TY), (oc6 wy (.ref wx) (.ref wz) (nI nw) rw), (oa wx cI 2 WX), (oa wz cI 2 WY), (oc6 dr (.ref dx) (.ref dy) (nI nd) rd), (oa dx cI cd P), (oa dy cI cd Q), (oc0 br b1 b2 b3 b4), (oc0 bo b5 b6 b7 b8), (oc7 sh (.ref fa) (nI ft)), (oq fa cF 200 FA)] ++ va_pl L f) sz (zXL e0 mi (va_A ([(oc8 x (.ref sh) (.ref lw) (.ref ro) (.ref bq) (.ref bp) (.ref dq) (.ref dp) (.ref lv) (.ref sl) (nI dn) sd ul su), (oc10 sl mc9 (.ref ea) (nI T)), (oc3 lw (.ref dr) (.ref tg) (.ref wy) (.ref br) (.ref bo) (.ref aa)), (oc6 tg (.ref tx) (.ref ty) (nI nt) rt), (oa tx cI 3 TX), (oa ty cI 3 TY), (oc6 wy (.ref wx) (.ref wz) (nI nw) rw), (oa wx cI 2 WX), (oa wz cI 2 WY), (oc6 dr (.ref dx) (.ref dy) (nI nd) rd), (oa dx cI cd P), (oa dy cI cd Q), (oc0 br b1 b2 b3 b4), (oc0 bo b5 b6 b7 b8), (oc7 sh (.ref fa) (nI ft)), (oq fa cF 200 FA)] ++ va_pl L f) sz)))) (zQ (some (.int 0)) (fun t => ∃ (ul1 : Int32), ∃ (su1 : Int32), ∃ (nt1 : Nat), ∃ (TX1 : Nat → Int32), ∃ (TY1 : Nat → Int32), ∃ (rt1 : Int32), ∃ (nw1 : Nat), ∃ (WX1 : Nat → Int32), ∃ (WY1 : Nat → Int32), ∃ (rw1 : Int32), ∃ (d5 : Int32), ∃ (d6 : Int32), ∃ (d7 : Int32), ∃ (d8 : Int32), ∃ (e5 : Int32), ∃ (e6 : Int32), ∃ (e7 : Int32), ∃ (e8 : Int32), ∃ (P1 : Nat → Int32), ∃ (Q1 : Nat → Int32), va_P (dC, dI) classes ([(oc8 x (.ref sh) (.ref lw) (.ref ro) (.ref bq) (.ref bp) (.ref dq) (.ref dp) (.ref lv) (.ref sl) (nI dn) sd ul1 su1), (oc10 sl mc9 (.ref ea) (nI T)), (oc3 lw (.ref dr) (.ref tg) (.ref wy) (.ref br) (.ref bo) (.ref aa)), (oc6 tg (.ref tx) (.ref ty) (nI nt1) rt1), (oa tx cI 3 TX1), (oa ty cI 3 TY1), (oc6 wy (.ref wx) (.ref wz) (nI nw1) rw1), (oa wx cI 2 WX1), (oa wz cI 2 WY1), (oc6 dr (.ref dx) (.ref dy) (nI (nN (mn f0))) (rgK (kd f0).toInt)), (oa dx cI cd P1), (oa dy cI cd Q1), (oc0 br d5 d6 d7 d8), (oc0 bo e5 e6 e7 e8), (oc7 sh (.ref fa) (nI ft)), (oq fa cF 200 FA)] ++ va_pl L f) t.heap ∧ va_D (va_A ([(oc8 x (.ref sh) (.ref lw) (.ref ro) (.ref bq) (.ref bp) (.ref dq) (.ref dp) (.ref lv) (.ref sl) (nI dn) sd ul su), (oc10 sl mc9 (.ref ea) (nI T)), (oc3 lw (.ref dr) (.ref tg) (.ref wy) (.ref br) (.ref bo) (.ref aa)), (oc6 tg (.ref tx) (.ref ty) (nI nt) rt), (oa tx cI 3 TX), (oa ty cI 3 TY), (oc6 wy (.ref wx) (.ref wz) (nI nw) rw), (oa wx cI 2 WX), (oa wz cI 2 WY), (oc6 dr (.ref dx) (.ref dy) (nI nd) rd), (oa dx cI cd P), (oa dy cI cd Q), (oc0 br b1 b2 b3 b4), (oc0 bo b5 b6 b7 b8), (oc7 sh (.ref fa) (nI ft)), (oq fa cF 200 FA)] ++ va_pl L f) sz) ([(oc8 x (.ref sh) (.ref lw) (.ref ro) (.ref bq) (.ref bp) (.ref dq) (.ref dp) (.ref lv) (.ref sl) (nI dn) sd ul1 su1), (oc10 sl mc9 (.ref ea) (nI T)), (oc3 lw (.ref dr) (.ref tg) (.ref wy) (.ref br) (.ref bo) (.ref aa)), (oc6 tg (.ref tx) (.ref ty) (nI nt1) rt1), (oa tx cI 3 TX1), (oa ty cI 3 TY1), (oc6 wy (.ref wx) (.ref wz) (nI nw1) rw1), (oa wx cI 2 WX1), (oa wz cI 2 WY1), (oc6 dr (.ref dx) (.ref dy) (nI (nN (mn f0))) (rgK (kd f0).toInt)), (oa dx cI cd P1), (oa dy cI cd Q1), (oc0 br d5 d6 d7 d8), (oc0 bo e5 e6 e7 e8), (oc7 sh (.ref fa) (nI ft)), (oq fa cF 200 FA)] ++ va_pl L f)) (va_A ([(oc8 x (.ref sh) (.ref lw) (.ref ro) (.ref bq) (.ref bp) (.ref dq) (.ref dp) (.ref lv) (.ref sl) (nI dn) sd ul su), (oc10 sl mc9 (.ref ea) (nI T)), (oc3 lw (.ref dr) (.ref tg) (.ref wy) (.ref br) (.ref bo) (.ref aa)), (oc6 tg (.ref tx) (.ref ty) (nI nt) rt), (oa tx cI 3 TX), (oa ty cI 3 TY), (oc6 wy (.ref wx) (.ref wz) (nI nw) rw), (oa wx cI 2 WX), (oa wz cI 2 WY), (oc6 dr (.ref dx) (.ref dy) (nI nd) rd), (oa dx cI cd P), (oa dy cI cd Q), (oc0 br b1 b2 b3 b4), (oc0 bo b5 b6 b7 b8), (oc7 sh (.ref fa) (nI ft)), (oq fa cF 200 FA)] ++ va_pl L f) sz)) 0 0 (va_A ([(oc8 x (.ref sh) (.ref lw) (.ref ro) (.ref bq) (.ref bp) (.ref dq) (.ref dp) (.ref lv) (.ref sl) (nI dn) sd ul su), (oc10 sl mc9 (.ref ea) (nI T)), (oc3 lw (.ref dr) (.ref tg) (.ref wy) (.ref br) (.ref bo) (.ref aa)), (oc6 tg (.ref tx) (.ref ty) (nI nt) rt), (oa tx cI 3 TX), (oa ty cI 3 TY), (oc6 wy (.ref wx) (.ref wz) (nI nw) rw), (oa wx cI 2 WX), (oa wz cI 2 WY), (oc6 dr (.ref dx) (.ref dy) (nI nd) rd), (oa dx cI cd P), (oa dy cI cd Q), (oc0 br b1 b2 b3 b4), (oc0 bo b5 b6 b7 b8), (oc7 sh (.ref fa) (nI ft)), (oq fa cF 200 FA)] ++ va_pl L f) sz) := by
  refine Met.ofW (cc := cX10_grow) (maxL := 4) (ret := (some .boolean)) rfl rfl ?_
  intro p e s m args below meth c s₁ B hml hv
  obtain ⟨rfl, hsz, hP, hK, hD0, hXL⟩ := hv
  have hx := B.exec
  have hb := B.bytes
  have hr := B.returns
  have hts0 := atoms_spec (ws := .code yX10_grow cX10_grow 4 (some .boolean) :: ws0) B.pre
  have hts : ∀ w9 ∈ ws0, w9.before ([.ref x, .int (nI f0)] : List Value).toArray s = true := fun w9 h => hts0 w9 (List.mem_cons_of_mem _ h)
  have hown : s.vm.findClass "ScaleShop" = some m.cls := findClass_of_methodNamed B.named
  have hlocks := B.notSynchronized
  subst hsz
  have hD := hD0.self (sz := s.heap.size)
  clear hD0
  generalize hAe : va_A ([(oc8 x (.ref sh) (.ref lw) (.ref ro) (.ref bq) (.ref bp) (.ref dq) (.ref dp) (.ref lv) (.ref sl) (nI dn) sd ul su), (oc10 sl mc9 (.ref ea) (nI T)), (oc3 lw (.ref dr) (.ref tg) (.ref wy) (.ref br) (.ref bo) (.ref aa)), (oc6 tg (.ref tx) (.ref ty) (nI nt) rt), (oa tx cI 3 TX), (oa ty cI 3 TY), (oc6 wy (.ref wx) (.ref wz) (nI nw) rw), (oa wx cI 2 WX), (oa wz cI 2 WY), (oc6 dr (.ref dx) (.ref dy) (nI nd) rd), (oa dx cI cd P), (oa dy cI cd Q), (oc0 br b1 b2 b3 b4), (oc0 bo b5 b6 b7 b8), (oc7 sh (.ref fa) (nI ft)), (oq fa cF 200 FA)] ++ va_pl L f) s.heap.size = A at hD hXL ⊢
  have hA : ∀ q : Nat, s.heap.size ≤ q → A q := fun q h => by rw [← hAe]; exact Or.inr h
  clear hAe
  have hS : va_S A s.heap s.heap [] := va_S.rf
  have hXN := hXL.1
  have hK3 := hK.sub [0, 1, 2] rfl
  have hP : va_P (dC, dI) classes ([(oc8 x (.ref sh) (.ref lw) (.ref ro) (.ref bq) (.ref bp) (.ref dq) (.ref dp) (.ref lv) (.ref sl) (nI dn) sd ul su), (oc10 sl mc9 (.ref ea) (nI T)), (oc3 lw (.ref dr) (.ref tg) (.ref wy) (.ref br) (.ref bo) (.ref aa)), (oc6 tg (.ref tx) (.ref ty) (nI nt) rt), (oa tx cI 3 TX), (oa ty cI 3 TY), (oc6 wy (.ref wx) (.ref wz) (nI nw) rw), (oa wx cI 2 WX), (oa wz cI 2 WY), (oc6 dr (.ref dx) (.ref dy) (nI nd) rd), (oa dx cI cd P), (oa dy cI cd Q), (oc0 br b1 b2 b3 b4), (oc0 bo b5 b6 b7 b8), (oc7 sh (.ref fa) (nI ft)), (oq fa cF 200 FA)] ++ va_pl L f) s.heap := hP
  obtain ⟨Q9, hQ9⟩ : ∃ Q9 : State → Prop, Q9 = MQ below (zQ (some (.int 0)) (fun t => ∃ (ul1 : Int32), ∃ (su1 : Int32), ∃ (nt1 : Nat), ∃ (TX1 : Nat → Int32), ∃ (TY1 : Nat → Int32), ∃ (rt1 : Int32), ∃ (nw1 : Nat), ∃ (WX1 : Nat → Int32), ∃ (WY1 : Nat → Int32), ∃ (rw1 : Int32), ∃ (d5 : Int32), ∃ (d6 : Int32), ∃ (d7 : Int32), ∃ (d8 : Int32), ∃ (e5 : Int32), ∃ (e6 : Int32), ∃ (e7 : Int32), ∃ (e8 : Int32), ∃ (P1 : Nat → Int32), ∃ (Q1 : Nat → Int32), va_P (dC, dI) classes ([(oc8 x (.ref sh) (.ref lw) (.ref ro) (.ref bq) (.ref bp) (.ref dq) (.ref dp) (.ref lv) (.ref sl) (nI dn) sd ul1 su1), (oc10 sl mc9 (.ref ea) (nI T)), (oc3 lw (.ref dr) (.ref tg) (.ref wy) (.ref br) (.ref bo) (.ref aa)), (oc6 tg (.ref tx) (.ref ty) (nI nt1) rt1), (oa tx cI 3 TX1), (oa ty cI 3 TY1), (oc6 wy (.ref wx) (.ref wz) (nI nw1) rw1), (oa wx cI 2 WX1), (oa wz cI 2 WY1), (oc6 dr (.ref dx) (.ref dy) (nI (nN (mn f0))) (rgK (kd f0).toInt)), (oa dx cI cd P1), (oa dy cI cd Q1), (oc0 br d5 d6 d7 d8), (oc0 bo e5 e6 e7 e8), (oc7 sh (.ref fa) (nI ft)), (oq fa cF 200 FA)] ++ va_pl L f) t.heap ∧ va_D A ([(oc8 x (.ref sh) (.ref lw) (.ref ro) (.ref bq) (.ref bp) (.ref dq) (.ref dp) (.ref lv) (.ref sl) (nI dn) sd ul1 su1), (oc10 sl mc9 (.ref ea) (nI T)), (oc3 lw (.ref dr) (.ref tg) (.ref wy) (.ref br) (.ref bo) (.ref aa)), (oc6 tg (.ref tx) (.ref ty) (nI nt1) rt1), (oa tx cI 3 TX1), (oa ty cI 3 TY1), (oc6 wy (.ref wx) (.ref wz) (nI nw1) rw1), (oa wx cI 2 WX1), (oa wz cI 2 WY1), (oc6 dr (.ref dx) (.ref dy) (nI (nN (mn f0))) (rgK (kd f0).toInt)), (oa dx cI cd P1), (oa dy cI cd Q1), (oc0 br d5 d6 d7 d8), (oc0 bo e5 e6 e7 e8), (oc7 sh (.ref fa) (nI ft)), (oq fa cF 200 FA)] ++ va_pl L f)) A) ([.ref x, .int (nI f0)] : List Value).toArray s 0 0 A := ⟨_, rfl⟩
  rw [← hQ9]
  have hl := lv_entry ([.ref x, .int (nI f0)]) (n := 4) (Nat.le_of_ble_eq_true rfl)
  rw [lg_entry_eq]
  generalize (lg_sl ([.ref x, .int (nI f0)]) ++ List.replicate (4 - (lg_sl ([.ref x, .int (nI f0)])).length) Slot.unset).toArray = ls at hl ⊢
  have hl : lv_has ls 4 [(0, .ref x), (1, .int (nI f0))] := hl
  obtain ⟨own, fe, cl, la, sp, SA, hG9, hH9, hft9⟩ := hB
  obtain ⟨hG, hM, hdT, hT5⟩ := M_0 hG9 hH9 hft9
  have h200 : ft ≤ 200 := hG.2.2.2.2.2.1.2.2.2.2.2
  have hFA9 := hG.2.2.2.2.2.2
  obtain ⟨lo5, lx5, ly5, ln5, LX5, LY5, we5, r5, rx5, ry5, cap5, X5, Y5, hc5⟩ := sh_fc hG.1 hG.2.1 (Nat.le_refl _) hf0 htn
  have hc5 := fc_0 hc5
  have hb5 := hc5.2.2.1
  have hb6 := hc5.2.1
  have hlv : lvF ft st tn f0 := ⟨hf0, hst, htn⟩
  have hwf0 := hwf f0 hlv
  have hw1 := hwf0.2.1
  have hkn0 := hkn f0 hlv
  have hX5 := hc5.2.2.2.2.1
  have hc9_1 : inPl L f [(oc1 (fe f0) (rk f0) (wd f0) (tw f0) (pa f0) (pb f0) (.ref lo5) (.ref (la dn f0)) .null), (oc4 (la dn f0) (kd f0) (st f0) (.ref r5) (gb f0) (it f0) (nI we5)), (oc6 r5 (.ref rx5) (.ref ry5) (nI (nN (mn f0))) (rgK (kd f0).toInt)), (oa rx5 cI cap5 X5), (oa ry5 cI cap5 Y5), (oc6 lo5 (.ref lx5) (.ref ly5) (nI ln5) 0), (oa lx5 cI (cl f0) LX5), (oa ly5 cI (cl f0) LY5)] := ⟨ce_pl hc5.1.1, ce_pl hc5.1.2.1, ce_pl hc5.1.2.2.1.1, ce_pl hc5.1.2.2.1.2.1, ce_pl hc5.1.2.2.1.2.2.1, ce_pl hc5.1.2.2.2.1, ce_pl hc5.1.2.2.2.2.1, ce_pl hc5.1.2.2.2.2.2.1, trivial⟩
  have hD0_1 := hD
  obtain ⟨hP, hD⟩ := pl_out hP hD [(oc1 (fe f0) (rk f0) (wd f0) (tw f0) (pa f0) (pb f0) (.ref lo5) (.ref (la dn f0)) .null), (oc4 (la dn f0) (kd f0) (st f0) (.ref r5) (gb f0) (it f0) (nI we5)), (oc6 r5 (.ref rx5) (.ref ry5) (nI (nN (mn f0))) (rgK (kd f0).toInt)), (oa rx5 cI cap5 X5), (oa ry5 cI cap5 Y5), (oc6 lo5 (.ref lx5) (.ref ly5) (nI ln5) 0), (oa lx5 cI (cl f0) LX5), (oa ly5 cI (cl f0) LY5)] hc9_1 (pw8 hc5 (by omega))
  generalize hT_1 : outPl L [(oc1 (fe f0) (rk f0) (wd f0) (tw f0) (pa f0) (pb f0) (.ref lo5) (.ref (la dn f0)) .null), (oc4 (la dn f0) (kd f0) (st f0) (.ref r5) (gb f0) (it f0) (nI we5)), (oc6 r5 (.ref rx5) (.ref ry5) (nI (nN (mn f0))) (rgK (kd f0).toInt)), (oa rx5 cI cap5 X5), (oa ry5 cI cap5 Y5), (oc6 lo5 (.ref lx5) (.ref ly5) (nI ln5) 0), (oa lx5 cI (cl f0) LX5), (oa ly5 cI (cl f0) LY5)] = T_1 at hP hD
  obtain ⟨hP, hD⟩ : zPD (dC, dI) classes A ([(oc8 x (.ref sh) (.ref lw) (.ref ro) (.ref bq) (.ref bp) (.ref dq) (.ref dp) (.ref lv) (.ref sl) (nI dn) sd ul su), (oc10 sl mc9 (.ref ea) (nI T)), (oc3 lw (.ref dr) (.ref tg) (.ref wy) (.ref br) (.ref bo) (.ref aa)), (oc6 tg (.ref tx) (.ref ty) (nI nt) rt), (oa tx cI 3 TX), (oa ty cI 3 TY), (oc6 wy (.ref wx) (.ref wz) (nI nw) rw), (oa wx cI 2 WX), (oa wz cI 2 WY), (oc6 dr (.ref dx) (.ref dy) (nI nd) rd), (oa dx cI cd P), (oa dy cI cd Q), (oc0 br b1 b2 b3 b4), (oc0 bo b5 b6 b7 b8), (oc7 sh (.ref fa) (nI ft)), (oq fa cF 200 FA), (oc1 (fe f0) (rk f0) (wd f0) (tw f0) (pa f0) (pb f0) (.ref lo5) (.ref (la dn f0)) .null), (oc4 (la dn f0) (kd f0) (st f0) (.ref r5) (gb f0) (it f0) (nI we5)), (oc6 r5 (.ref rx5) (.ref ry5) (nI (nN (mn f0))) (rgK (kd f0).toInt)), (oa rx5 cI cap5 X5), (oa ry5 cI cap5 Y5), (oc6 lo5 (.ref lx5) (.ref ly5) (nI ln5) 0), (oa lx5 cI (cl f0) LX5), (oa ly5 cI (cl f0) LY5)] ++ va_pl T_1 f) s.heap := ⟨hP, hD⟩
  refine lv_aload_n hx hb dX10_grow_0 rfl (lv_at hl 0 rfl) ?_
  refine va_get (D := (dC, dI)) (ci := 8) (v := .ref sh) (C := RX10) (T := TX10) (N := 13) hx hb hts inX10 hown hK hP 0 rfl rfl 0 (Nat.le_of_ble_eq_true rfl) (hts _ mw_309) (fun _ h9 => h9) rfl dX10_grow_1 ?_
  refine lv_iload_n hx hb dX10_grow_4 rfl (lv_at hl 1 rfl) ?_
  obtain ⟨hPc, hDc, hFc⟩ := zc_sub (wc := [(oc7 sh (.ref fa) (nI ft)), (oq fa cF 200 FA)]) hP hD hS hA [14, 15] rfl rfl
  refine zcall (st1 := [.ref (fe f0)]) (va_runV (As := [.int (nI f0)]) (rest := []) ⟨hx, hb, hml, hown, hts⟩ (k_Sheet_find l dC dI cI cZ cF s.heap.size sh fa ft FA f0 (fe f0) (by first | with_reducible assumption | omega) (by first | with_reducible assumption | omega) (hFA9 f0 (by first | with_reducible assumption | omega))) (csV_94 hts rfl rfl ⟨Nat.le_of_ble_eq_true rfl, Nat.le_of_ble_eq_true rfl⟩) (zPV2 (q0 := 0) (ci := 7) hPc hDc hK3 hXN rfl rfl) rfl rfl hl.1 rfl (lv_room (Nat.le_of_ble_eq_true rfl)) dX10_grow_5 ⟨Nat.le_of_ble_eq_true rfl, Nat.le_of_ble_eq_true rfl⟩) hS hFc hFc rfl (fun t H locs ht hB hk1 hS => ?_)
  obtain ⟨hP1, hD1⟩ := hB
  rw [ht] at hP1
  obtain ⟨hP, hD⟩ := zkQ (W2 := [(oc8 x (.ref sh) (.ref lw) (.ref ro) (.ref bq) (.ref bp) (.ref dq) (.ref dp) (.ref lv) (.ref sl) (nI dn) sd ul su), (oc10 sl mc9 (.ref ea) (nI T)), (oc3 lw (.ref dr) (.ref tg) (.ref wy) (.ref br) (.ref bo) (.ref aa)), (oc6 tg (.ref tx) (.ref ty) (nI nt) rt), (oa tx cI 3 TX), (oa ty cI 3 TY), (oc6 wy (.ref wx) (.ref wz) (nI nw) rw), (oa wx cI 2 WX), (oa wz cI 2 WY), (oc6 dr (.ref dx) (.ref dy) (nI nd) rd), (oa dx cI cd P), (oa dy cI cd Q), (oc0 br b1 b2 b3 b4), (oc0 bo b5 b6 b7 b8), (oc7 sh (.ref fa) (nI ft)), (oq fa cF 200 FA), (oc1 (fe f0) (rk f0) (wd f0) (tw f0) (pa f0) (pb f0) (.ref lo5) (.ref (la dn f0)) .null), (oc4 (la dn f0) (kd f0) (st f0) (.ref r5) (gb f0) (it f0) (nI we5)), (oc6 r5 (.ref rx5) (.ref ry5) (nI (nN (mn f0))) (rgK (kd f0).toInt)), (oa rx5 cI cap5 X5), (oa ry5 cI cap5 Y5), (oc6 lo5 (.ref lx5) (.ref ly5) (nI ln5) 0), (oa lx5 cI (cl f0) LX5), (oa ly5 cI (cl f0) LY5)]) hP hD [14, 15] [0, 1, 2, 3, 4, 5, 6, 7, 8, 9, 10, 11, 12, 13, 16, 17, 18, 19, 20, 21, 22, 23] [0, 1, 2, 3, 4, 5, 6, 7, 8, 9, 10, 11, 12, 13, 16, 17, 18, 19, 20, 21, 22, 23] [14, 15] [0, 1, 2, 3, 4, 5, 6, 7, 8, 9, 10, 11, 12, 13, 22, 23, 14, 15, 16, 17, 18, 19, 20, 21] 24 rfl rfl rfl rfl rfl rfl rfl rfl rfl hk1 hFc hP1 hD1
  clear hk1 hPc hDc hFc hP1 hD1 ht
  refine lv_astore_n (lv' := [(2, .ref (fe f0)), (0, .ref x), (1, .int (nI f0))]) hx hb dX10_grow_8 rfl hl (Nat.le_of_ble_eq_true rfl) rfl (fun ls hl => ?_)
  refine lv_aload_n hx hb dX10_grow_9 rfl (lv_at hl 0 rfl) ?_
  refine lv_ifnonnull (tgt := 19) hx hb dX10_grow_10 rfl ?_
  refine lv_aload_n hx hb dX10_grow_19 rfl (lv_at hl 0 rfl) ?_
  refine va_get (D := (dC, dI)) (ci := 1) (v := .ref (la dn f0)) (C := RX2) (T := TX2) (N := 8) hx hb hts inX2 hown hK hP 16 rfl rfl 6 (Nat.le_of_ble_eq_true rfl) (hts _ mw_433) (fun _ h9 => h9) rfl dX10_grow_20 ?_
  refine va_get (D := (dC, dI)) (ci := 4) (v := .int (st f0)) (C := RX5) (T := TX5) (N := 6) hx hb hts inX5 hown hK hP 17 rfl rfl 1 (Nat.le_of_ble_eq_true rfl) (hts _ mw_385) (fun _ h9 => h9) rfl dX10_grow_23 ?_
  refine lv_iconst (v := 1) hx hb dX10_grow_26 rfl ?_
  refine lv_icmp_eq (tgt := 36) hx hb dX10_grow_27 rfl (fun c_1 => ?_) (fun c_1 => ?_)
  · have c_1 : (st f0).toInt = 1 := zc_eq rfl rfl c_1
    refine lv_aload_n hx hb dX10_grow_36 rfl (lv_at hl 0 rfl) ?_
    refine va_get (D := (dC, dI)) (ci := 1) (v := .ref (la dn f0)) (C := RX2) (T := TX2) (N := 8) hx hb hts inX2 hown hK hP 16 rfl rfl 6 (Nat.le_of_ble_eq_true rfl) (hts _ mw_433) (fun _ h9 => h9) rfl dX10_grow_37 ?_
    refine va_get (D := (dC, dI)) (ci := 4) (v := .int (kd f0)) (C := RX5) (T := TX5) (N := 6) hx hb hts inX5 hown hK hP 17 rfl rfl 0 (Nat.le_of_ble_eq_true rfl) (hts _ mw_381) (fun _ h9 => h9) rfl dX10_grow_40 ?_
    refine lv_bipush (v := 6) hx hb dX10_grow_43 rfl ?_
    refine lv_icmp_eq (tgt := 54) hx hb dX10_grow_45 rfl (fun c_2 => ?_) (fun c_2 => ?_)
    · have c_2 : (kd f0).toInt = 6 := zc_eq rfl rfl c_2
      refine lv_aload_n hx hb dX10_grow_54 rfl (lv_at hl 0 rfl) ?_
      refine va_get (D := (dC, dI)) (ci := 1) (v := .ref (la dn f0)) (C := RX2) (T := TX2) (N := 8) hx hb hts inX2 hown hK hP 16 rfl rfl 6 (Nat.le_of_ble_eq_true rfl) (hts _ mw_433) (fun _ h9 => h9) rfl dX10_grow_55 ?_
      refine va_get (D := (dC, dI)) (ci := 4) (v := .ref r5) (C := RX5) (T := TX5) (N := 6) hx hb hts inX5 hown hK hP 17 rfl rfl 2 (Nat.le_of_ble_eq_true rfl) (hts _ mw_391) (fun _ h9 => h9) rfl dX10_grow_58 ?_
      refine lv_astore_n (lv' := [(3, .ref r5), (2, .ref (fe f0)), (0, .ref x), (1, .int (nI f0))]) hx hb dX10_grow_61 rfl hl (Nat.le_of_ble_eq_true rfl) rfl (fun ls hl => ?_)
      refine lv_aload_n hx hb dX10_grow_62 rfl (lv_at hl 0 rfl) ?_
      refine lv_ifnonnull (tgt := 72) hx hb dX10_grow_63 rfl ?_
      refine lv_aload_n hx hb dX10_grow_72 rfl (lv_at hl 2 rfl) ?_
      refine va_get (D := (dC, dI)) (ci := 8) (v := .ref lw) (C := RX10) (T := TX10) (N := 13) hx hb hts inX10 hown hK hP 0 rfl rfl 1 (Nat.le_of_ble_eq_true rfl) (hts _ mw_310) (fun _ h9 => h9) rfl dX10_grow_73 ?_
      refine va_get (D := (dC, dI)) (ci := 3) (v := .ref dr) (C := RX4) (T := TX4) (N := 6) hx hb hts inX4 hown hK hP 2 rfl rfl 0 (Nat.le_of_ble_eq_true rfl) (hts _ mw_220) (fun _ h9 => h9) rfl dX10_grow_76 ?_
      refine lv_aload_n hx hb dX10_grow_79 rfl (lv_at hl 0 rfl) ?_
      obtain ⟨hPc, hDc, hFc⟩ := zc_sub (wc := [(oc6 dr (.ref dx) (.ref dy) (nI nd) rd), (oa dx cI cd P), (oa dy cI cd Q), (oc6 r5 (.ref rx5) (.ref ry5) (nI (nN (mn f0))) (rgK (kd f0).toInt)), (oa rx5 cI cap5 X5), (oa ry5 cI cap5 Y5)]) hP hD hS hA [9, 10, 11, 18, 19, 20] rfl rfl
      refine zcall (st1 := []) (va_runV (As := [.ref r5]) (rest := []) ⟨hx, hb, hml, hown, hts⟩ (k_Row_doubleFrom l dC dI cI cZ cF H.size dr dx dy nd cd P Q rd r5 rx5 ry5 (nN (mn f0)) cap5 X5 Y5 (rgK (kd f0).toInt) (by first | with_reducible assumption | omega) (by first | with_reducible assumption | omega) (by first | with_reducible assumption | omega) (by first | with_reducible assumption | omega) (rgK_01 _)) (csV_118 hts rfl rfl ⟨Nat.le_of_ble_eq_true rfl, Nat.le_of_ble_eq_true rfl⟩) (zPV2 (q0 := 0) (ci := 6) hPc hDc hK3 hXN rfl rfl) rfl rfl hl.1 rfl (lv_room (Nat.le_of_ble_eq_true rfl)) dX10_grow_80 ⟨Nat.le_of_ble_eq_true rfl, Nat.le_of_ble_eq_true rfl⟩) hS hFc hFc rfl (fun t H locs ht hB hk1 hS => ?_)
      obtain ⟨P7, Q7, hall7, hP1, hD1⟩ := hB
      rw [ht] at hP1
      obtain ⟨hP, hD⟩ := zkQ (W2 := [(oc8 x (.ref sh) (.ref lw) (.ref ro) (.ref bq) (.ref bp) (.ref dq) (.ref dp) (.ref lv) (.ref sl) (nI dn) sd ul su), (oc10 sl mc9 (.ref ea) (nI T)), (oc3 lw (.ref dr) (.ref tg) (.ref wy) (.ref br) (.ref bo) (.ref aa)), (oc6 tg (.ref tx) (.ref ty) (nI nt) rt), (oa tx cI 3 TX), (oa ty cI 3 TY), (oc6 wy (.ref wx) (.ref wz) (nI nw) rw), (oa wx cI 2 WX), (oa wz cI 2 WY), (oc6 dr (.ref dx) (.ref dy) (nI (nN (mn f0))) (rgK (kd f0).toInt)), (oa dx cI cd P7), (oa dy cI cd Q7), (oc0 br b1 b2 b3 b4), (oc0 bo b5 b6 b7 b8), (oc7 sh (.ref fa) (nI ft)), (oq fa cF 200 FA), (oc1 (fe f0) (rk f0) (wd f0) (tw f0) (pa f0) (pb f0) (.ref lo5) (.ref (la dn f0)) .null), (oc4 (la dn f0) (kd f0) (st f0) (.ref r5) (gb f0) (it f0) (nI we5)), (oc6 r5 (.ref rx5) (.ref ry5) (nI (nN (mn f0))) (rgK (kd f0).toInt)), (oa rx5 cI cap5 X5), (oa ry5 cI cap5 Y5), (oc6 lo5 (.ref lx5) (.ref ly5) (nI ln5) 0), (oa lx5 cI (cl f0) LX5), (oa ly5 cI (cl f0) LY5)]) hP hD [9, 10, 11, 18, 19, 20] [0, 1, 2, 3, 4, 5, 6, 7, 8, 12, 13, 14, 15, 16, 17, 21, 22, 23] [0, 1, 2, 3, 4, 5, 6, 7, 8, 12, 13, 14, 15, 16, 17, 21, 22, 23] [9, 10, 11, 18, 19, 20] [0, 1, 2, 3, 4, 5, 6, 7, 8, 18, 19, 20, 9, 10, 11, 12, 13, 14, 21, 22, 23, 15, 16, 17] 24 rfl rfl rfl rfl rfl rfl rfl rfl rfl hk1 hFc hP1 hD1
      clear hk1 hPc hDc hFc hP1 hD1 ht
      have hv7 : ∀ k, k < nN (mn f0) → P7 k = (fun i => 2 * cF40 cx f0 i - cF40 cx f0 0) k ∧ Q7 k = (fun i => 2 * cF40 cy f0 i - cF40 cy f0 0) k := fun k hk => by rw [(hall7 k hk).1, (hall7 k hk).2, (hX5 k hk).1, (hX5 k hk).2, (hX5 0 (by omega)).1, (hX5 0 (by omega)).2]; exact ⟨rfl, rfl⟩
      refine lv_aload_n hx hb dX10_grow_83 rfl (lv_at hl 2 rfl) ?_
      refine lv_aload_n hx hb dX10_grow_84 rfl (lv_at hl 1 rfl) ?_
      refine lv_iload_n hx hb dX10_grow_85 rfl (lv_at hl 3 rfl) ?_
      refine lv_iconst (v := 4) hx hb dX10_grow_86 rfl ?_
      obtain ⟨hPc, hDc, hFc⟩ := zc_part (cx := [(oc8 x (.ref sh) (.ref lw) (.ref ro) (.ref bq) (.ref bp) (.ref dq) (.ref dp) (.ref lv) (.ref sl) (nI dn) sd ul su), (oc10 sl mc9 (.ref ea) (nI T)), (oc3 lw (.ref dr) (.ref tg) (.ref wy) (.ref br) (.ref bo) (.ref aa)), (oc6 tg (.ref tx) (.ref ty) (nI nt) rt), (oa tx cI 3 TX), (oa ty cI 3 TY), (oc6 wy (.ref wx) (.ref wz) (nI nw) rw), (oa wx cI 2 WX), (oa wz cI 2 WY), (oc6 dr (.ref dx) (.ref dy) (nI (nN (mn f0))) (rgK (kd f0).toInt)), (oa dx cI cd P7), (oa dy cI cd Q7), (oc0 br b1 b2 b3 b4), (oc0 bo b5 b6 b7 b8), (oc1 (fe f0) (rk f0) (wd f0) (tw f0) (pa f0) (pb f0) (.ref lo5) (.ref (la dn f0)) .null), (oc4 (la dn f0) (kd f0) (st f0) (.ref r5) (gb f0) (it f0) (nI we5)), (oc6 r5 (.ref rx5) (.ref ry5) (nI (nN (mn f0))) (rgK (kd f0).toInt)), (oa rx5 cI cap5 X5), (oa ry5 cI cap5 Y5), (oc6 lo5 (.ref lx5) (.ref ly5) (nI ln5) 0), (oa lx5 cI (cl f0) LX5), (oa ly5 cI (cl f0) LY5), (oc7 sh (.ref fa) (nI ft)), (oq fa cF 200 FA)]) hP hD hS hA [0, 1, 2, 3, 4, 5, 6, 7, 8, 9, 10, 11, 12, 13, 16, 17, 18, 19, 20, 21, 22, 23, 14, 15] rfl rfl
      refine zcall (st1 := [.int 0]) (va_runV (As := [.ref (fe f0), .int (nI f0), .int 4]) (rest := []) ⟨hx, hb, hml, hown, hts⟩ (k_moveTo_m_r l dC dI cI cZ cF H.size cO e0 mi x sh lw ro bq bp dq dp lv sl sd ul su ea mc9 fa FA bs dn T ft FT V VX VY tn rk wd tw pa pb wh of9 we kd st gb it mn cx cy T_1 f L f0 own fe cl la sp SA lo5 lx5 ly5 ln5 LX5 LY5 we5 r5 rx5 ry5 cap5 X5 Y5 dr tg wy br bo aa tx ty nt TX TY rt wx wz nw WX WY rw dx dy cd P7 Q7 b1 b2 b3 b4 b5 b6 b7 b8 4 (hG9) (hH9) (hft9) (hc5) (hT_1) (by first | with_reducible assumption | assumption) (by first | with_reducible assumption | assumption) (hst) (hwf) (hkn) (by first | with_reducible assumption | omega) (by have := hkn0; have := hsm.1; omega) (fun h => hbad ⟨((alM_cx hw1.1 hX5).trans (alM_lw (VX := fun i => 2 * cF40 cx f0 i - cF40 cx f0 0) (VY := fun i => 2 * cF40 cy f0 i - cF40 cy f0 0) (by first | with_reducible assumption | omega) (by first | with_reducible assumption | omega) (hsm.2 (by first | with_reducible assumption | omega)).1 hv7 hwf hkn)).mp h.1, Classical.byContradiction fun g => h.2 ((mv_alk hv7 hX5).mpr g)⟩)) (csV_117 hts rfl rfl ⟨Nat.le_of_ble_eq_true rfl, Nat.le_of_ble_eq_true rfl⟩) (zPVL (q0 := 0) (ci := 8) hPc hDc hK hXL hS hFc rfl rfl) rfl rfl hl.1 rfl (lv_room (Nat.le_of_ble_eq_true rfl)) dX10_grow_87 ⟨Nat.le_of_ble_eq_true rfl, Nat.le_of_ble_eq_true rfl⟩) hS hFc hFc rfl (fun t H locs ht hB hk1 hS => ?_)
      obtain ⟨ul8, su8, nt8, TX8, TY8, rt8, nw8, WX8, WY8, rw8, g08, g18, g28, g38, g48, g58, g68, g78, hP1, hD1⟩ := hB
      rw [ht] at hP1
      obtain ⟨hP, hD⟩ := zkP (W2 := [(oc8 x (.ref sh) (.ref lw) (.ref ro) (.ref bq) (.ref bp) (.ref dq) (.ref dp) (.ref lv) (.ref sl) (nI dn) sd ul8 su8), (oc10 sl mc9 (.ref ea) (nI T)), (oc3 lw (.ref dr) (.ref tg) (.ref wy) (.ref br) (.ref bo) (.ref aa)), (oc6 tg (.ref tx) (.ref ty) (nI nt8) rt8), (oa tx cI 3 TX8), (oa ty cI 3 TY8), (oc6 wy (.ref wx) (.ref wz) (nI nw8) rw8), (oa wx cI 2 WX8), (oa wz cI 2 WY8), (oc6 dr (.ref dx) (.ref dy) (nI (nN (mn f0))) (rgK (kd f0).toInt)), (oa dx cI cd P7), (oa dy cI cd Q7), (oc0 br g08 g18 g28 g38), (oc0 bo g48 g58 g68 g78), (oc7 sh (.ref fa) (nI ft)), (oq fa cF 200 FA), (oc1 (fe f0) (rk f0) (wd f0) (tw f0) (pa f0) (pb f0) (.ref lo5) (.ref (la dn f0)) .null), (oc4 (la dn f0) (kd f0) (st f0) (.ref r5) (gb f0) (it f0) (nI we5)), (oc6 r5 (.ref rx5) (.ref ry5) (nI (nN (mn f0))) (rgK (kd f0).toInt)), (oa rx5 cI cap5 X5), (oa ry5 cI cap5 Y5), (oc6 lo5 (.ref lx5) (.ref ly5) (nI ln5) 0), (oa lx5 cI (cl f0) LX5), (oa ly5 cI (cl f0) LY5)]) hP hD [0, 1, 2, 3, 4, 5, 6, 7, 8, 9, 10, 11, 12, 13, 16, 17, 18, 19, 20, 21, 22, 23, 14, 15] [] [] [0, 1, 2, 3, 4, 5, 6, 7, 8, 9, 10, 11, 12, 13, 16, 17, 18, 19, 20, 21, 22, 23, 14, 15] [0, 1, 2, 3, 4, 5, 6, 7, 8, 9, 10, 11, 12, 13, 22, 23, 14, 15, 16, 17, 18, 19, 20, 21] 24 rfl rfl rfl rfl rfl rfl rfl rfl rfl hk1 hFc hP1 hD1
      clear hk1 hPc hDc hFc hP1 hD1 ht
      have hP := pl_back (cs := [(oc1 (fe f0) (rk f0) (wd f0) (tw f0) (pa f0) (pb f0) (.ref lo5) (.ref (la dn f0)) .null), (oc4 (la dn f0) (kd f0) (st f0) (.ref r5) (gb f0) (it f0) (nI we5)), (oc6 r5 (.ref rx5) (.ref ry5) (nI (nN (mn f0))) (rgK (kd f0).toInt)), (oa rx5 cI cap5 X5), (oa ry5 cI cap5 Y5), (oc6 lo5 (.ref lx5) (.ref ly5) (nI ln5) 0), (oa lx5 cI (cl f0) LX5), (oa ly5 cI (cl f0) LY5)]) (L := L) (f := f) (X := [(oc8 x (.ref sh) (.ref lw) (.ref ro) (.ref bq) (.ref bp) (.ref dq) (.ref dp) (.ref lv) (.ref sl) (nI dn) sd ul8 su8), (oc10 sl mc9 (.ref ea) (nI T)), (oc3 lw (.ref dr) (.ref tg) (.ref wy) (.ref br) (.ref bo) (.ref aa)), (oc6 tg (.ref tx) (.ref ty) (nI nt8) rt8), (oa tx cI 3 TX8), (oa ty cI 3 TY8), (oc6 wy (.ref wx) (.ref wz) (nI nw8) rw8), (oa wx cI 2 WX8), (oa wz cI 2 WY8), (oc6 dr (.ref dx) (.ref dy) (nI (nN (mn f0))) (rgK (kd f0).toInt)), (oa dx cI cd P7), (oa dy cI cd Q7), (oc0 br g08 g18 g28 g38), (oc0 bo g48 g58 g68 g78), (oc7 sh (.ref fa) (nI ft)), (oq fa cF 200 FA)]) (by rw [hT_1]; exact (show va_P (dC, dI) classes (([(oc8 x (.ref sh) (.ref lw) (.ref ro) (.ref bq) (.ref bp) (.ref dq) (.ref dp) (.ref lv) (.ref sl) (nI dn) sd ul8 su8), (oc10 sl mc9 (.ref ea) (nI T)), (oc3 lw (.ref dr) (.ref tg) (.ref wy) (.ref br) (.ref bo) (.ref aa)), (oc6 tg (.ref tx) (.ref ty) (nI nt8) rt8), (oa tx cI 3 TX8), (oa ty cI 3 TY8), (oc6 wy (.ref wx) (.ref wz) (nI nw8) rw8), (oa wx cI 2 WX8), (oa wz cI 2 WY8), (oc6 dr (.ref dx) (.ref dy) (nI (nN (mn f0))) (rgK (kd f0).toInt)), (oa dx cI cd P7), (oa dy cI cd Q7), (oc0 br g08 g18 g28 g38), (oc0 bo g48 g58 g68 g78), (oc7 sh (.ref fa) (nI ft)), (oq fa cF 200 FA)] ++ [(oc1 (fe f0) (rk f0) (wd f0) (tw f0) (pa f0) (pb f0) (.ref lo5) (.ref (la dn f0)) .null), (oc4 (la dn f0) (kd f0) (st f0) (.ref r5) (gb f0) (it f0) (nI we5)), (oc6 r5 (.ref rx5) (.ref ry5) (nI (nN (mn f0))) (rgK (kd f0).toInt)), (oa rx5 cI cap5 X5), (oa ry5 cI cap5 Y5), (oc6 lo5 (.ref lx5) (.ref ly5) (nI ln5) 0), (oa lx5 cI (cl f0) LX5), (oa ly5 cI (cl f0) LY5)]) ++ va_pl T_1 f) H from hP)) hc9_1
      have hD : va_D A ([(oc8 x (.ref sh) (.ref lw) (.ref ro) (.ref bq) (.ref bp) (.ref dq) (.ref dp) (.ref lv) (.ref sl) (nI dn) sd ul8 su8), (oc10 sl mc9 (.ref ea) (nI T)), (oc3 lw (.ref dr) (.ref tg) (.ref wy) (.ref br) (.ref bo) (.ref aa)), (oc6 tg (.ref tx) (.ref ty) (nI nt8) rt8), (oa tx cI 3 TX8), (oa ty cI 3 TY8), (oc6 wy (.ref wx) (.ref wz) (nI nw8) rw8), (oa wx cI 2 WX8), (oa wz cI 2 WY8), (oc6 dr (.ref dx) (.ref dy) (nI (nN (mn f0))) (rgK (kd f0).toInt)), (oa dx cI cd P7), (oa dy cI cd Q7), (oc0 br g08 g18 g28 g38), (oc0 bo g48 g58 g68 g78), (oc7 sh (.ref fa) (nI ft)), (oq fa cF 200 FA)] ++ va_pl L f) := vaD_ae hD0_1 rfl
      obtain ⟨hP9, hD9⟩ := zq_part (cx := [(oc8 x (.ref sh) (.ref lw) (.ref ro) (.ref bq) (.ref bp) (.ref dq) (.ref dp) (.ref lv) (.ref sl) (nI dn) sd ul8 su8), (oc10 sl mc9 (.ref ea) (nI T)), (oc3 lw (.ref dr) (.ref tg) (.ref wy) (.ref br) (.ref bo) (.ref aa)), (oc6 tg (.ref tx) (.ref ty) (nI nt8) rt8), (oa tx cI 3 TX8), (oa ty cI 3 TY8), (oc6 wy (.ref wx) (.ref wz) (nI nw8) rw8), (oa wx cI 2 WX8), (oa wz cI 2 WY8), (oc6 dr (.ref dx) (.ref dy) (nI (nN (mn f0))) (rgK (kd f0).toInt)), (oa dx cI cd P7), (oa dy cI cd Q7), (oc0 br g08 g18 g28 g38), (oc0 bo g48 g58 g68 g78), (oc7 sh (.ref fa) (nI ft)), (oq fa cF 200 FA)]) hP hD [0, 1, 2, 3, 4, 5, 6, 7, 8, 9, 10, 11, 12, 13, 14, 15] rfl rfl
      rw [hQ9]
      exact W.zret (ty := .boolean) (v := 0) hx hb hr (rfl) (fun t ht hW => ⟨⟨rfl, ul8, su8, nt8, TX8, TY8, rt8, nw8, WX8, WY8, rw8, g08, g18, g28, g38, g48, g58, g68, g78, P7, Q7, by rw [ht]; exact hP9, hD9⟩, hS.F ht⟩) hS.2.2 dX10_grow_90
    · have c_2 : ¬ (kd f0).toInt = 6 := zc_ne rfl rfl c_2
      exfalso; omega
  · have c_1 : ¬ (st f0).toInt = 1 := zc_ne rfl rfl c_1
    exfalso; omega
end
section
set_option maxHeartbeats 4000000 in
set_option maxRecDepth 100000 in
theorem k_shiftp_y (l : Launch) (dC : Nat → ClassId) (dI : Nat → Nat → Nat) (cI cZ cF : ClassId) (sz : Nat) (cO : ClassId) (e0 : Nat) (mi : Nat) (x : Nat) (sh : Nat) (lw : Nat) (ro : Nat) (bq : Nat) (bp : Nat) (dq : Nat) (dp : Nat) (lv : Nat) (sl : Nat) (sd : Int32) (ul : Int32) (su : Int32) (ea : Nat) (mc9 : Int32) (fa : Nat) (FA : Nat → Option Nat) (bs : Nat) (dn : Nat) (T : Nat) (ft : Nat) (FT : Nat → Nat) (V : Nat → Nat → Nat → Int32) (VX : Nat → Nat → Int32) (VY : Nat → Nat → Int32) (tn : Nat → Int32) (rk : Nat → Int32) (wd : Nat → Int32) (tw : Nat → Int32) (pa : Nat → Int32) (pb : Nat → Int32) (wh : Nat → Int32) (of9 : Nat → Int32) (we : Nat → Int32) (kd : Nat → Int32) (st : Nat → Int32) (gb : Nat → Int32) (it : Nat → Int32) (mn : Nat → Int32) (cx : Nat → Int32) (cy : Nat → Int32) (L : List Nat) (f : Nat → va_E) (f0 : Nat) (dr : Nat) (tg : Nat) (wy : Nat) (br : Nat) (bo : Nat) (aa : Nat) (tx : Nat) (ty : Nat) (nt : Nat) (TX : Nat → Int32) (TY : Nat → Int32) (rt : Int32) (wx : Nat) (wz : Nat) (nw : Nat) (WX : Nat → Int32) (WY : Nat → Int32) (rw : Int32) (dx : Nat) (dy : Nat) (nd : Nat) (cd : Nat) (P : Nat → Int32) (Q : Nat → Int32) (rd : Int32) (b1 : Int32) (b2 : Int32) (b3 : Int32) (b4 : Int32) (b5 : Int32) (b6 : Int32) (b7 : Int32) (b8 : Int32) (kk : Nat) (rr : Nat) (sx : Int32) (sy : Int32) (hB : shB cI cO L f e0 FA ea bs dn T ft FT V VX VY tn rk wd tw pa pb wh of9 we kd st gb it mn cx cy) (hd5 : dn + 1 ≤ 512) (hf0 : f0 < ft) (htn : (tn f0).toInt = 0) (hst : (st f0).toInt = 1) (hwf : ∀ q, lvF ft st tn q → wfM mn cx cy q) (hkn : okN ft st tn kd mn) (hsm : mSm (kd f0).toInt (nN (mn f0)) (cF40 cx f0) (cF40 cy f0)) (hcd : 40 ≤ cd ∧ cd ≤ 1000) (hkk : kk < nN (mn f0)) (hrr : rr ≤ 20) (hdx : -200 ≤ sx.toInt ∧ sx.toInt ≤ 200) (hdy : -200 ≤ sy.toInt ∧ sy.toInt ≤ 200) (hkd : 1 ≤ (kd f0).toInt ∧ (kd f0).toInt ≤ 5) (hlaw : lwM ft st tn kd mn cx cy f0 (nN (mn f0)) (fun i => shV (kd f0).toInt (nN (mn f0)) kk sx rr (cF40 cx f0) i) (fun i => shV (kd f0).toInt (nN (mn f0)) kk sy rr (cF40 cy f0) i)) (hmv : mvd (nN (mn f0)) (fun i => shV (kd f0).toInt (nN (mn f0)) kk sx rr (cF40 cx f0) i) (fun i => shV (kd f0).toInt (nN (mn f0)) kk sy rr (cF40 cy f0) i) (cF40 cx f0) (cF40 cy f0)) : Met l yX10_shift (.code yX10_shift cX10_shift 8 (some .boolean) :: ws0) ({ frames := 9, cells := ft + 6, slots := 4 * ft + 2 * nN (mn f0) + 815, locals := 205 } : Room) (va_Pc [.ref x, .int (nI f0), .int (nI kk), .int sx, .int sy, .int (nI rr)] (zPre (dC, dI) classes (zTyO cI cZ cF cO) ([(oc8 x (.ref sh) (.ref lw) (.ref ro) (.ref bq) (.ref bp) (.ref dq) (.ref dp) (.ref lv) (.ref sl) (nI dn) sd ul su), (oc10 sl mc9 (.ref ea) (nI T)), (oc3 lw (.ref dr) (.ref tg) (.ref wy) (.ref br) (.ref bo) (.ref aa)), (oc6 tg (.ref tx) (.ref ty) (nI nt) rt), (oa tx cI 3 TX), (oa ty cI 3 TY), (oc6 wy (.ref wx) (.ref wz) (nI nw) rw), (oa wx cI 2 WX), (oa wz cI 2 WY), (oc6 dr (.ref dx) (.ref dy) (nI nd) rd), (oa dx cI cd P), (oa dy cI cd Q), (oc0 br b1 b2 b3 b4), (oc0 bo b5 b6 b7 b8), (oc7 sh (.ref fa) (nI ft)), (oq fa cF 200 FA)] ++ va_pl L f) sz (zXL e0 mi (va_A ([(oc8 x (.ref sh) (.ref lw) (.ref ro) (.ref bq) (.ref bp) (.ref dq) (.ref dp) (.ref lv) (.ref sl) (nI dn) sd ul su), (oc10 sl mc9 (.ref ea) (nI T)), (oc3 lw (.ref dr) (.ref tg) (.ref wy) (.ref br) (.ref bo) (.ref aa)), (oc6 tg (.ref tx) (.ref ty) (nI nt) rt), (oa tx cI 3 TX), (oa ty cI 3 TY), (oc6 wy (.ref wx) (.ref wz) (nI nw) rw), (oa wx cI 2 WX), (oa wz cI 2 WY), (oc6 dr (.ref dx) (.ref dy) (nI nd) rd), (oa dx cI cd P), (oa dy cI cd Q), (oc0 br b1 b2 b3 b4), (oc0 bo b5 b6 b7 b8), (oc7 sh (.ref fa) (nI ft)), (oq fa cF 200 FA)] ++ va_pl L f) sz)))) (zQ (some (.int 1)) (fun t => ∃ (mc1 : Int32), ∃ (L1 : List Nat), ∃ (f1 : Nat → va_E), ∃ (ea1 : Nat), ∃ (nt1 : Nat), ∃ (TX1 : Nat → Int32), ∃ (TY1 : Nat → Int32), ∃ (rt1 : Int32), ∃ (nw1 : Nat), ∃ (WX1 : Nat → Int32), ∃ (WY1 : Nat → Int32), ∃ (rw1 : Int32), ∃ (d5 : Int32), ∃ (d6 : Int32), ∃ (d7 : Int32), ∃ (d8 : Int32), ∃ (e5 : Int32), ∃ (e6 : Int32), ∃ (e7 : Int32), ∃ (e8 : Int32), ∃ (P1 : Nat → Int32), ∃ (Q1 : Nat → Int32), (shB cI cO L1 f1 e0 FA ea1 bs (dn + 1) (dn + 1) ft (upN FT (dn + 1) ft) (upN V (dn + 1) (vC kd st gb it mn)) (upN VX (dn + 1) (fgX f0 (nN (mn f0)) (fun i => shV (kd f0).toInt (nN (mn f0)) kk sx rr (cF40 cx f0) i) cx)) (upN VY (dn + 1) (fgX f0 (nN (mn f0)) (fun i => shV (kd f0).toInt (nN (mn f0)) kk sy rr (cF40 cy f0) i) cy)) tn rk wd tw pa pb (upd wh (dn + 1) (3 : Int32)) (upd of9 (dn + 1) (nI f0)) (upd we (dn + 1) (0 : Int32)) kd st gb it mn (fgX f0 (nN (mn f0)) (fun i => shV (kd f0).toInt (nN (mn f0)) kk sx rr (cF40 cx f0) i) cx) (fgX f0 (nN (mn f0)) (fun i => shV (kd f0).toInt (nN (mn f0)) kk sy rr (cF40 cy f0) i) cy)) ∧ va_P (dC, dI) classes ([(oc8 x (.ref sh) (.ref lw) (.ref ro) (.ref bq) (.ref bp) (.ref dq) (.ref dp) (.ref lv) (.ref sl) (nI (dn + 1)) sd ul 0), (oc10 sl mc1 (.ref ea1) (nI (dn + 1))), (oc3 lw (.ref dr) (.ref tg) (.ref wy) (.ref br) (.ref bo) (.ref aa)), (oc6 tg (.ref tx) (.ref ty) (nI nt1) rt1), (oa tx cI 3 TX1), (oa ty cI 3 TY1), (oc6 wy (.ref wx) (.ref wz) (nI nw1) rw1), (oa wx cI 2 WX1), (oa wz cI 2 WY1), (oc6 dr (.ref dx) (.ref dy) (nI (nN (mn f0))) (rgK (kd f0).toInt)), (oa dx cI cd P1), (oa dy cI cd Q1), (oc0 br d5 d6 d7 d8), (oc0 bo e5 e6 e7 e8), (oc7 sh (.ref fa) (nI ft)), (oq fa cF 200 FA)] ++ va_pl L1 f1) t.heap ∧ va_D (va_A ([(oc8 x (.ref sh) (.ref lw) (.ref ro) (.ref bq) (.ref bp) (.ref dq) (.ref dp) (.ref lv) (.ref sl) (nI dn) sd ul su), (oc10 sl mc9 (.ref ea) (nI T)), (oc3 lw (.ref dr) (.ref tg) (.ref wy) (.ref br) (.ref bo) (.ref aa)), (oc6 tg (.ref tx) (.ref ty) (nI nt) rt), (oa tx cI 3 TX), (oa ty cI 3 TY), (oc6 wy (.ref wx) (.ref wz) (nI nw) rw), (oa wx cI 2 WX), (oa wz cI 2 WY), (oc6 dr (.ref dx) (.ref dy) (nI nd) rd), (oa dx cI cd P), (oa dy cI cd Q), (oc0 br b1 b2 b3 b4), (oc0 bo b5 b6 b7 b8), (oc7 sh (.ref fa) (nI ft)), (oq fa cF 200 FA)] ++ va_pl L f) sz) ([(oc8 x (.ref sh) (.ref lw) (.ref ro) (.ref bq) (.ref bp) (.ref dq) (.ref dp) (.ref lv) (.ref sl) (nI (dn + 1)) sd ul 0), (oc10 sl mc1 (.ref ea1) (nI (dn + 1))), (oc3 lw (.ref dr) (.ref tg) (.ref wy) (.ref br) (.ref bo) (.ref aa)), (oc6 tg (.ref tx) (.ref ty) (nI nt1) rt1), (oa tx cI 3 TX1), (oa ty cI 3 TY1), (oc6 wy (.ref wx) (.ref wz) (nI nw1) rw1), (oa wx cI 2 WX1), (oa wz cI 2 WY1), (oc6 dr (.ref dx) (.ref dy) (nI (nN (mn f0))) (rgK (kd f0).toInt)), (oa dx cI cd P1), (oa dy cI cd Q1), (oc0 br d5 d6 d7 d8), (oc0 bo e5 e6 e7 e8), (oc7 sh (.ref fa) (nI ft)), (oq fa cF 200 FA)] ++ va_pl L1 f1)) (va_A ([(oc8 x (.ref sh) (.ref lw) (.ref ro) (.ref bq) (.ref bp) (.ref dq) (.ref dp) (.ref lv) (.ref sl) (nI dn) sd ul su), (oc10 sl mc9 (.ref ea) (nI T)), (oc3 lw (.ref dr) (.ref tg) (.ref wy) (.ref br) (.ref bo) (.ref aa)), (oc6 tg (.ref tx) (.ref ty) (nI nt) rt), (oa tx cI 3 TX), (oa ty cI 3 TY), (oc6 wy (.ref wx) (.ref wz) (nI nw) rw), (oa wx cI 2 WX), (oa wz cI 2 WY), (oc6 dr (.ref dx) (.ref dy) (nI nd) rd), (oa dx cI cd P), (oa dy cI cd Q), (oc0 br b1 b2 b3 b4), (oc0 bo b5 b6 b7 b8), (oc7 sh (.ref fa) (nI ft)), (oq fa cF 200 FA)] ++ va_pl L f) sz)) (ft + 6) (4 * ft + 2 * nN (mn f0) + 815) (va_A ([(oc8 x (.ref sh) (.ref lw) (.ref ro) (.ref bq) (.ref bp) (.ref dq) (.ref dp) (.ref lv) (.ref sl) (nI dn) sd ul su), (oc10 sl mc9 (.ref ea) (nI T)), (oc3 lw (.ref dr) (.ref tg) (.ref wy) (.ref br) (.ref bo) (.ref aa)), (oc6 tg (.ref tx) (.ref ty) (nI nt) rt), (oa tx cI 3 TX), (oa ty cI 3 TY), (oc6 wy (.ref wx) (.ref wz) (nI nw) rw), (oa wx cI 2 WX), (oa wz cI 2 WY), (oc6 dr (.ref dx) (.ref dy) (nI nd) rd), (oa dx cI cd P), (oa dy cI cd Q), (oc0 br b1 b2 b3 b4), (oc0 bo b5 b6 b7 b8), (oc7 sh (.ref fa) (nI ft)), (oq fa cF 200 FA)] ++ va_pl L f) sz) := by
  refine Met.ofW (cc := cX10_shift) (maxL := 8) (ret := (some .boolean)) rfl rfl ?_
  intro p e s m args below meth c s₁ B hml hv
  obtain ⟨rfl, hsz, hP, hK, hD0, hXL⟩ := hv
  have hx := B.exec
  have hb := B.bytes
  have hr := B.returns
  have hts0 := atoms_spec (ws := .code yX10_shift cX10_shift 8 (some .boolean) :: ws0) B.pre
  have hts : ∀ w9 ∈ ws0, w9.before ([.ref x, .int (nI f0), .int (nI kk), .int sx, .int sy, .int (nI rr)] : List Value).toArray s = true := fun w9 h => hts0 w9 (List.mem_cons_of_mem _ h)
  have hown : s.vm.findClass "ScaleShop" = some m.cls := findClass_of_methodNamed B.named
  have hlocks := B.notSynchronized
  subst hsz
  have hD := hD0.self (sz := s.heap.size)
  clear hD0
  generalize hAe : va_A ([(oc8 x (.ref sh) (.ref lw) (.ref ro) (.ref bq) (.ref bp) (.ref dq) (.ref dp) (.ref lv) (.ref sl) (nI dn) sd ul su), (oc10 sl mc9 (.ref ea) (nI T)), (oc3 lw (.ref dr) (.ref tg) (.ref wy) (.ref br) (.ref bo) (.ref aa)), (oc6 tg (.ref tx) (.ref ty) (nI nt) rt), (oa tx cI 3 TX), (oa ty cI 3 TY), (oc6 wy (.ref wx) (.ref wz) (nI nw) rw), (oa wx cI 2 WX), (oa wz cI 2 WY), (oc6 dr (.ref dx) (.ref dy) (nI nd) rd), (oa dx cI cd P), (oa dy cI cd Q), (oc0 br b1 b2 b3 b4), (oc0 bo b5 b6 b7 b8), (oc7 sh (.ref fa) (nI ft)), (oq fa cF 200 FA)] ++ va_pl L f) s.heap.size = A at hD hXL ⊢
  have hA : ∀ q : Nat, s.heap.size ≤ q → A q := fun q h => by rw [← hAe]; exact Or.inr h
  clear hAe
  have hS : va_S A s.heap s.heap [] := va_S.rf
  have hXN := hXL.1
  have hK3 := hK.sub [0, 1, 2] rfl
  have hP : va_P (dC, dI) classes ([(oc8 x (.ref sh) (.ref lw) (.ref ro) (.ref bq) (.ref bp) (.ref dq) (.ref dp) (.ref lv) (.ref sl) (nI dn) sd ul su), (oc10 sl mc9 (.ref ea) (nI T)), (oc3 lw (.ref dr) (.ref tg) (.ref wy) (.ref br) (.ref bo) (.ref aa)), (oc6 tg (.ref tx) (.ref ty) (nI nt) rt), (oa tx cI 3 TX), (oa ty cI 3 TY), (oc6 wy (.ref wx) (.ref wz) (nI nw) rw), (oa wx cI 2 WX), (oa wz cI 2 WY), (oc6 dr (.ref dx) (.ref dy) (nI nd) rd), (oa dx cI cd P), (oa dy cI cd Q), (oc0 br b1 b2 b3 b4), (oc0 bo b5 b6 b7 b8), (oc7 sh (.ref fa) (nI ft)), (oq fa cF 200 FA)] ++ va_pl L f) s.heap := hP
  obtain ⟨Q9, hQ9⟩ : ∃ Q9 : State → Prop, Q9 = MQ below (zQ (some (.int 1)) (fun t => ∃ (mc1 : Int32), ∃ (L1 : List Nat), ∃ (f1 : Nat → va_E), ∃ (ea1 : Nat), ∃ (nt1 : Nat), ∃ (TX1 : Nat → Int32), ∃ (TY1 : Nat → Int32), ∃ (rt1 : Int32), ∃ (nw1 : Nat), ∃ (WX1 : Nat → Int32), ∃ (WY1 : Nat → Int32), ∃ (rw1 : Int32), ∃ (d5 : Int32), ∃ (d6 : Int32), ∃ (d7 : Int32), ∃ (d8 : Int32), ∃ (e5 : Int32), ∃ (e6 : Int32), ∃ (e7 : Int32), ∃ (e8 : Int32), ∃ (P1 : Nat → Int32), ∃ (Q1 : Nat → Int32), (shB cI cO L1 f1 e0 FA ea1 bs (dn + 1) (dn + 1) ft (upN FT (dn + 1) ft) (upN V (dn + 1) (vC kd st gb it mn)) (upN VX (dn + 1) (fgX f0 (nN (mn f0)) (fun i => shV (kd f0).toInt (nN (mn f0)) kk sx rr (cF40 cx f0) i) cx)) (upN VY (dn + 1) (fgX f0 (nN (mn f0)) (fun i => shV (kd f0).toInt (nN (mn f0)) kk sy rr (cF40 cy f0) i) cy)) tn rk wd tw pa pb (upd wh (dn + 1) (3 : Int32)) (upd of9 (dn + 1) (nI f0)) (upd we (dn + 1) (0 : Int32)) kd st gb it mn (fgX f0 (nN (mn f0)) (fun i => shV (kd f0).toInt (nN (mn f0)) kk sx rr (cF40 cx f0) i) cx) (fgX f0 (nN (mn f0)) (fun i => shV (kd f0).toInt (nN (mn f0)) kk sy rr (cF40 cy f0) i) cy)) ∧ va_P (dC, dI) classes ([(oc8 x (.ref sh) (.ref lw) (.ref ro) (.ref bq) (.ref bp) (.ref dq) (.ref dp) (.ref lv) (.ref sl) (nI (dn + 1)) sd ul 0), (oc10 sl mc1 (.ref ea1) (nI (dn + 1))), (oc3 lw (.ref dr) (.ref tg) (.ref wy) (.ref br) (.ref bo) (.ref aa)), (oc6 tg (.ref tx) (.ref ty) (nI nt1) rt1), (oa tx cI 3 TX1), (oa ty cI 3 TY1), (oc6 wy (.ref wx) (.ref wz) (nI nw1) rw1), (oa wx cI 2 WX1), (oa wz cI 2 WY1), (oc6 dr (.ref dx) (.ref dy) (nI (nN (mn f0))) (rgK (kd f0).toInt)), (oa dx cI cd P1), (oa dy cI cd Q1), (oc0 br d5 d6 d7 d8), (oc0 bo e5 e6 e7 e8), (oc7 sh (.ref fa) (nI ft)), (oq fa cF 200 FA)] ++ va_pl L1 f1) t.heap ∧ va_D A ([(oc8 x (.ref sh) (.ref lw) (.ref ro) (.ref bq) (.ref bp) (.ref dq) (.ref dp) (.ref lv) (.ref sl) (nI (dn + 1)) sd ul 0), (oc10 sl mc1 (.ref ea1) (nI (dn + 1))), (oc3 lw (.ref dr) (.ref tg) (.ref wy) (.ref br) (.ref bo) (.ref aa)), (oc6 tg (.ref tx) (.ref ty) (nI nt1) rt1), (oa tx cI 3 TX1), (oa ty cI 3 TY1), (oc6 wy (.ref wx) (.ref wz) (nI nw1) rw1), (oa wx cI 2 WX1), (oa wz cI 2 WY1), (oc6 dr (.ref dx) (.ref dy) (nI (nN (mn f0))) (rgK (kd f0).toInt)), (oa dx cI cd P1), (oa dy cI cd Q1), (oc0 br d5 d6 d7 d8), (oc0 bo e5 e6 e7 e8), (oc7 sh (.ref fa) (nI ft)), (oq fa cF 200 FA)] ++ va_pl L1 f1)) A) ([.ref x, .int (nI f0), .int (nI kk), .int sx, .int sy, .int (nI rr)] : List Value).toArray s (ft + 6) (4 * ft + 2 * nN (mn f0) + 815) A := ⟨_, rfl⟩
  rw [← hQ9]
  have hl := lv_entry ([.ref x, .int (nI f0), .int (nI kk), .int sx, .int sy, .int (nI rr)]) (n := 8) (Nat.le_of_ble_eq_true rfl)
  rw [lg_entry_eq]
  generalize (lg_sl ([.ref x, .int (nI f0), .int (nI kk), .int sx, .int sy, .int (nI rr)]) ++ List.replicate (8 - (lg_sl ([.ref x, .int (nI f0), .int (nI kk), .int sx, .int sy, .int (nI rr)])).length) Slot.unset).toArray = ls at hl ⊢
  have hl : lv_has ls 8 [(0, .ref x), (1, .int (nI f0)), (2, .int (nI kk)), (3, .int sx), (4, .int sy), (5, .int (nI rr))] := hl
  obtain ⟨own, fe, cl, la, sp, SA, hG9, hH9, hft9⟩ := hB
  obtain ⟨hG, hM, hdT, hT5⟩ := M_0 hG9 hH9 hft9
  have h200 : ft ≤ 200 := hG.2.2.2.2.2.1.2.2.2.2.2
  have hFA9 := hG.2.2.2.2.2.2
  obtain ⟨lo5, lx5, ly5, ln5, LX5, LY5, we5, r5, rx5, ry5, cap5, X5, Y5, hc5⟩ := sh_fc hG.1 hG.2.1 (Nat.le_refl _) hf0 htn
  have hc5 := fc_0 hc5
  have hb5 := hc5.2.2.1
  have hb6 := hc5.2.1
  have hlv : lvF ft st tn f0 := ⟨hf0, hst, htn⟩
  have hwf0 := hwf f0 hlv
  have hw1 := hwf0.2.1
  have hkn0 := hkn f0 hlv
  have hX5 := hc5.2.2.2.2.1
  have hkk9 : (nI kk).toInt = ((kk : Nat) : Int) := nI_toInt (by omega)
  have hrr9 : (nI rr).toInt = ((rr : Nat) : Int) := nI_toInt (by omega)
  have e_m200 : (-200 : Int32).toInt = -200 := (by decide)
  have e_200 : (200 : Int32).toInt = 200 := (by decide)
  have e_0 : (0 : Int32).toInt = 0 := (by decide)
  have e_20 : (20 : Int32).toInt = 20 := (by decide)
  have hc9_1 : inPl L f [(oc1 (fe f0) (rk f0) (wd f0) (tw f0) (pa f0) (pb f0) (.ref lo5) (.ref (la dn f0)) .null), (oc4 (la dn f0) (kd f0) (st f0) (.ref r5) (gb f0) (it f0) (nI we5)), (oc6 r5 (.ref rx5) (.ref ry5) (nI (nN (mn f0))) (rgK (kd f0).toInt)), (oa rx5 cI cap5 X5), (oa ry5 cI cap5 Y5), (oc6 lo5 (.ref lx5) (.ref ly5) (nI ln5) 0), (oa lx5 cI (cl f0) LX5), (oa ly5 cI (cl f0) LY5)] := ⟨ce_pl hc5.1.1, ce_pl hc5.1.2.1, ce_pl hc5.1.2.2.1.1, ce_pl hc5.1.2.2.1.2.1, ce_pl hc5.1.2.2.1.2.2.1, ce_pl hc5.1.2.2.2.1, ce_pl hc5.1.2.2.2.2.1, ce_pl hc5.1.2.2.2.2.2.1, trivial⟩
  have hD0_1 := hD
  obtain ⟨hP, hD⟩ := pl_out hP hD [(oc1 (fe f0) (rk f0) (wd f0) (tw f0) (pa f0) (pb f0) (.ref lo5) (.ref (la dn f0)) .null), (oc4 (la dn f0) (kd f0) (st f0) (.ref r5) (gb f0) (it f0) (nI we5)), (oc6 r5 (.ref rx5) (.ref ry5) (nI (nN (mn f0))) (rgK (kd f0).toInt)), (oa rx5 cI cap5 X5), (oa ry5 cI cap5 Y5), (oc6 lo5 (.ref lx5) (.ref ly5) (nI ln5) 0), (oa lx5 cI (cl f0) LX5), (oa ly5 cI (cl f0) LY5)] hc9_1 (pw8 hc5 (by omega))
  generalize hT_1 : outPl L [(oc1 (fe f0) (rk f0) (wd f0) (tw f0) (pa f0) (pb f0) (.ref lo5) (.ref (la dn f0)) .null), (oc4 (la dn f0) (kd f0) (st f0) (.ref r5) (gb f0) (it f0) (nI we5)), (oc6 r5 (.ref rx5) (.ref ry5) (nI (nN (mn f0))) (rgK (kd f0).toInt)), (oa rx5 cI cap5 X5), (oa ry5 cI cap5 Y5), (oc6 lo5 (.ref lx5) (.ref ly5) (nI ln5) 0), (oa lx5 cI (cl f0) LX5), (oa ly5 cI (cl f0) LY5)] = T_1 at hP hD
  obtain ⟨hP, hD⟩ : zPD (dC, dI) classes A ([(oc8 x (.ref sh) (.ref lw) (.ref ro) (.ref bq) (.ref bp) (.ref dq) (.ref dp) (.ref lv) (.ref sl) (nI dn) sd ul su), (oc10 sl mc9 (.ref ea) (nI T)), (oc3 lw (.ref dr) (.ref tg) (.ref wy) (.ref br) (.ref bo) (.ref aa)), (oc6 tg (.ref tx) (.ref ty) (nI nt) rt), (oa tx cI 3 TX), (oa ty cI 3 TY), (oc6 wy (.ref wx) (.ref wz) (nI nw) rw), (oa wx cI 2 WX), (oa wz cI 2 WY), (oc6 dr (.ref dx) (.ref dy) (nI nd) rd), (oa dx cI cd P), (oa dy cI cd Q), (oc0 br b1 b2 b3 b4), (oc0 bo b5 b6 b7 b8), (oc7 sh (.ref fa) (nI ft)), (oq fa cF 200 FA), (oc1 (fe f0) (rk f0) (wd f0) (tw f0) (pa f0) (pb f0) (.ref lo5) (.ref (la dn f0)) .null), (oc4 (la dn f0) (kd f0) (st f0) (.ref r5) (gb f0) (it f0) (nI we5)), (oc6 r5 (.ref rx5) (.ref ry5) (nI (nN (mn f0))) (rgK (kd f0).toInt)), (oa rx5 cI cap5 X5), (oa ry5 cI cap5 Y5), (oc6 lo5 (.ref lx5) (.ref ly5) (nI ln5) 0), (oa lx5 cI (cl f0) LX5), (oa ly5 cI (cl f0) LY5)] ++ va_pl T_1 f) s.heap := ⟨hP, hD⟩
  refine lv_aload_n hx hb dX10_shift_0 rfl (lv_at hl 0 rfl) ?_
  refine va_get (D := (dC, dI)) (ci := 8) (v := .ref sh) (C := RX10) (T := TX10) (N := 13) hx hb hts inX10 hown hK hP 0 rfl rfl 0 (Nat.le_of_ble_eq_true rfl) (hts _ mw_309) (fun _ h9 => h9) rfl dX10_shift_1 ?_
  refine lv_iload_n hx hb dX10_shift_4 rfl (lv_at hl 1 rfl) ?_
  obtain ⟨hPc, hDc, hFc⟩ := zc_sub (wc := [(oc7 sh (.ref fa) (nI ft)), (oq fa cF 200 FA)]) hP hD hS hA [14, 15] rfl rfl
  refine zcall (st1 := [.ref (fe f0)]) (va_runV (As := [.int (nI f0)]) (rest := []) ⟨hx, hb, hml, hown, hts⟩ (k_Sheet_find l dC dI cI cZ cF s.heap.size sh fa ft FA f0 (fe f0) (by first | with_reducible assumption | omega) (by first | with_reducible assumption | omega) (hFA9 f0 (by first | with_reducible assumption | omega))) (csV_94 hts rfl rfl ⟨Nat.le_of_ble_eq_true rfl, Nat.le_of_ble_eq_true rfl⟩) (zPV2 (q0 := 0) (ci := 7) hPc hDc hK3 hXN rfl rfl) rfl rfl hl.1 rfl (lv_room (Nat.le_of_ble_eq_true rfl)) dX10_shift_5 ⟨show 0 ≤ ft + 6 by omega, show 0 ≤ 4 * ft + 2 * nN (mn f0) + 815 by omega⟩) hS hFc hFc rfl (fun t H locs ht hB hk1 hS => ?_)
  obtain ⟨hP1, hD1⟩ := hB
  rw [ht] at hP1
  obtain ⟨hP, hD⟩ := zkQ (W2 := [(oc8 x (.ref sh) (.ref lw) (.ref ro) (.ref bq) (.ref bp) (.ref dq) (.ref dp) (.ref lv) (.ref sl) (nI dn) sd ul su), (oc10 sl mc9 (.ref ea) (nI T)), (oc3 lw (.ref dr) (.ref tg) (.ref wy) (.ref br) (.ref bo) (.ref aa)), (oc6 tg (.ref tx) (.ref ty) (nI nt) rt), (oa tx cI 3 TX), (oa ty cI 3 TY), (oc6 wy (.ref wx) (.ref wz) (nI nw) rw), (oa wx cI 2 WX), (oa wz cI 2 WY), (oc6 dr (.ref dx) (.ref dy) (nI nd) rd), (oa dx cI cd P), (oa dy cI cd Q), (oc0 br b1 b2 b3 b4), (oc0 bo b5 b6 b7 b8), (oc7 sh (.ref fa) (nI ft)), (oq fa cF 200 FA), (oc1 (fe f0) (rk f0) (wd f0) (tw f0) (pa f0) (pb f0) (.ref lo5) (.ref (la dn f0)) .null), (oc4 (la dn f0) (kd f0) (st f0) (.ref r5) (gb f0) (it f0) (nI we5)), (oc6 r5 (.ref rx5) (.ref ry5) (nI (nN (mn f0))) (rgK (kd f0).toInt)), (oa rx5 cI cap5 X5), (oa ry5 cI cap5 Y5), (oc6 lo5 (.ref lx5) (.ref ly5) (nI ln5) 0), (oa lx5 cI (cl f0) LX5), (oa ly5 cI (cl f0) LY5)]) hP hD [14, 15] [0, 1, 2, 3, 4, 5, 6, 7, 8, 9, 10, 11, 12, 13, 16, 17, 18, 19, 20, 21, 22, 23] [0, 1, 2, 3, 4, 5, 6, 7, 8, 9, 10, 11, 12, 13, 16, 17, 18, 19, 20, 21, 22, 23] [14, 15] [0, 1, 2, 3, 4, 5, 6, 7, 8, 9, 10, 11, 12, 13, 22, 23, 14, 15, 16, 17, 18, 19, 20, 21] 24 rfl rfl rfl rfl rfl rfl rfl rfl rfl hk1 hFc hP1 hD1
  clear hk1 hPc hDc hFc hP1 hD1 ht
  refine lv_astore (lv' := [(6, .ref (fe f0)), (0, .ref x), (1, .int (nI f0)), (2, .int (nI kk)), (3, .int sx), (4, .int sy), (5, .int (nI rr))]) hx hb dX10_shift_8 hl (Nat.le_of_ble_eq_true rfl) rfl (fun ls hl => ?_)
  refine lv_aload hx hb dX10_shift_10 (lv_at hl 0 rfl) ?_
  refine lv_ifnull hx hb dX10_shift_12 ?_
  refine lv_aload hx hb dX10_shift_15 (lv_at hl 0 rfl) ?_
  refine lv_iload_n hx hb dX10_shift_17 rfl (lv_at hl 3 rfl) ?_
  obtain ⟨hPc, hDc, hFc⟩ := zc_sub (wc := [(oc1 (fe f0) (rk f0) (wd f0) (tw f0) (pa f0) (pb f0) (.ref lo5) (.ref (la dn f0)) .null), (oc4 (la dn f0) (kd f0) (st f0) (.ref r5) (gb f0) (it f0) (nI we5)), (oc6 r5 (.ref rx5) (.ref ry5) (nI (nN (mn f0))) (rgK (kd f0).toInt))]) hP hD hS hA [16, 17, 18] rfl rfl
  refine zcall (st1 := [.int (pI (0 ≤ (nI kk).toInt ∧ (nI kk).toInt < (((nN (mn f0)) : Nat) : Int)))]) (va_runV (As := [.int (nI kk)]) (rest := []) ⟨hx, hb, hml, hown, hts⟩ (k_Feature_mayHaveCorner_r l dC dI cI cZ cF H.size (fe f0) lo5 (rk f0) (wd f0) (tw f0) (pa f0) (pb f0) (la dn f0) (kd f0) (st f0) (gb f0) (it f0) (nI we5) r5 rx5 ry5 (nN (mn f0)) (nI kk) (rgK (kd f0).toInt) (by first | with_reducible assumption | omega)) (csV_119 hts rfl rfl ⟨Nat.le_of_ble_eq_true rfl, Nat.le_of_ble_eq_true rfl⟩) (zPV2 (q0 := 0) (ci := 1) hPc hDc hK3 hXN rfl rfl) rfl rfl hl.1 rfl (lv_room (Nat.le_of_ble_eq_true rfl)) dX10_shift_18 ⟨show 0 ≤ ft + 6 by omega, show 0 ≤ 4 * ft + 2 * nN (mn f0) + 815 by omega⟩) hS hFc hFc rfl (fun t H locs ht hB hk1 hS => ?_)
  obtain ⟨hP1, hD1⟩ := hB
  rw [ht] at hP1
  obtain ⟨hP, hD⟩ := zkQ (W2 := [(oc8 x (.ref sh) (.ref lw) (.ref ro) (.ref bq) (.ref bp) (.ref dq) (.ref dp) (.ref lv) (.ref sl) (nI dn) sd ul su), (oc10 sl mc9 (.ref ea) (nI T)), (oc3 lw (.ref dr) (.ref tg) (.ref wy) (.ref br) (.ref bo) (.ref aa)), (oc6 tg (.ref tx) (.ref ty) (nI nt) rt), (oa tx cI 3 TX), (oa ty cI 3 TY), (oc6 wy (.ref wx) (.ref wz) (nI nw) rw), (oa wx cI 2 WX), (oa wz cI 2 WY), (oc6 dr (.ref dx) (.ref dy) (nI nd) rd), (oa dx cI cd P), (oa dy cI cd Q), (oc0 br b1 b2 b3 b4), (oc0 bo b5 b6 b7 b8), (oc7 sh (.ref fa) (nI ft)), (oq fa cF 200 FA), (oc1 (fe f0) (rk f0) (wd f0) (tw f0) (pa f0) (pb f0) (.ref lo5) (.ref (la dn f0)) .null), (oc4 (la dn f0) (kd f0) (st f0) (.ref r5) (gb f0) (it f0) (nI we5)), (oc6 r5 (.ref rx5) (.ref ry5) (nI (nN (mn f0))) (rgK (kd f0).toInt)), (oa rx5 cI cap5 X5), (oa ry5 cI cap5 Y5), (oc6 lo5 (.ref lx5) (.ref ly5) (nI ln5) 0), (oa lx5 cI (cl f0) LX5), (oa ly5 cI (cl f0) LY5)]) hP hD [16, 17, 18] [0, 1, 2, 3, 4, 5, 6, 7, 8, 9, 10, 11, 12, 13, 14, 15, 19, 20, 21, 22, 23] [0, 1, 2, 3, 4, 5, 6, 7, 8, 9, 10, 11, 12, 13, 14, 15, 19, 20, 21, 22, 23] [16, 17, 18] [0, 1, 2, 3, 4, 5, 6, 7, 8, 9, 10, 11, 12, 13, 14, 15, 21, 22, 23, 16, 17, 18, 19, 20] 24 rfl rfl rfl rfl rfl rfl rfl rfl rfl hk1 hFc hP1 hD1
  clear hk1 hPc hDc hFc hP1 hD1 ht
  refine lv_if_ne (tgt := 30) hx hb dX10_shift_21 rfl (fun c_1 => ?_) (fun c_1 => ?_)
  · have c_1 : 0 ≤ (nI kk).toInt ∧ (nI kk).toInt < (((nN (mn f0)) : Nat) : Int) := zp_1 c_1
    refine lv_aload hx hb dX10_shift_30 (lv_at hl 0 rfl) ?_
    refine va_get (D := (dC, dI)) (ci := 1) (v := .ref (la dn f0)) (C := RX2) (T := TX2) (N := 8) hx hb hts inX2 hown hK hP 16 rfl rfl 6 (Nat.le_of_ble_eq_true rfl) (hts _ mw_433) (fun _ h9 => h9) rfl dX10_shift_32 ?_
    refine va_get (D := (dC, dI)) (ci := 4) (v := .int (st f0)) (C := RX5) (T := TX5) (N := 6) hx hb hts inX5 hown hK hP 17 rfl rfl 1 (Nat.le_of_ble_eq_true rfl) (hts _ mw_385) (fun _ h9 => h9) rfl dX10_shift_35 ?_
    refine lv_iconst (v := 1) hx hb dX10_shift_38 rfl ?_
    refine lv_icmp_eq (tgt := 48) hx hb dX10_shift_39 rfl (fun c_2 => ?_) (fun c_2 => ?_)
    · have c_2 : (st f0).toInt = 1 := zc_eq rfl rfl c_2
      refine lv_iload_n hx hb dX10_shift_48 rfl (lv_at hl 4 rfl) ?_
      refine lv_sipush (v := (-200)) hx hb dX10_shift_49 rfl ?_
      refine lv_sipush (v := 200) hx hb dX10_shift_52 rfl ?_
      obtain ⟨hPc, hDc, hFc⟩ := zc_sub (wc := []) hP hD hS hA [] rfl rfl
      refine zcall (st1 := [.int (pI ((-200 : Int32).toInt ≤ sx.toInt ∧ sx.toInt ≤ (200 : Int32).toInt))]) (va_runS (As := [.int sx, .int (-200), .int 200]) (rest := []) ⟨hx, hb, hml, hown, hts⟩ (k_isWithin l dC dI cI cZ cF H.size sx (-200) 200 ) (csS_14 hts rfl rfl ⟨Nat.le_of_ble_eq_true rfl, Nat.le_of_ble_eq_true rfl⟩) (zPS2 hPc hDc hK3 hXN) rfl rfl hl.1 rfl (lv_room (Nat.le_of_ble_eq_true rfl)) dX10_shift_55 ⟨show 0 ≤ ft + 6 by omega, show 0 ≤ 4 * ft + 2 * nN (mn f0) + 815 by omega⟩) hS hFc hFc rfl (fun t H locs ht hB hk1 hS => ?_)
      obtain ⟨hP1, hD1⟩ := hB
      rw [ht] at hP1
      obtain ⟨hP, hD⟩ := zkQ (W2 := [(oc8 x (.ref sh) (.ref lw) (.ref ro) (.ref bq) (.ref bp) (.ref dq) (.ref dp) (.ref lv) (.ref sl) (nI dn) sd ul su), (oc10 sl mc9 (.ref ea) (nI T)), (oc3 lw (.ref dr) (.ref tg) (.ref wy) (.ref br) (.ref bo) (.ref aa)), (oc6 tg (.ref tx) (.ref ty) (nI nt) rt), (oa tx cI 3 TX), (oa ty cI 3 TY), (oc6 wy (.ref wx) (.ref wz) (nI nw) rw), (oa wx cI 2 WX), (oa wz cI 2 WY), (oc6 dr (.ref dx) (.ref dy) (nI nd) rd), (oa dx cI cd P), (oa dy cI cd Q), (oc0 br b1 b2 b3 b4), (oc0 bo b5 b6 b7 b8), (oc7 sh (.ref fa) (nI ft)), (oq fa cF 200 FA), (oc1 (fe f0) (rk f0) (wd f0) (tw f0) (pa f0) (pb f0) (.ref lo5) (.ref (la dn f0)) .null), (oc4 (la dn f0) (kd f0) (st f0) (.ref r5) (gb f0) (it f0) (nI we5)), (oc6 r5 (.ref rx5) (.ref ry5) (nI (nN (mn f0))) (rgK (kd f0).toInt)), (oa rx5 cI cap5 X5), (oa ry5 cI cap5 Y5), (oc6 lo5 (.ref lx5) (.ref ly5) (nI ln5) 0), (oa lx5 cI (cl f0) LX5), (oa ly5 cI (cl f0) LY5)]) hP hD [] [0, 1, 2, 3, 4, 5, 6, 7, 8, 9, 10, 11, 12, 13, 14, 15, 16, 17, 18, 19, 20, 21, 22, 23] [0, 1, 2, 3, 4, 5, 6, 7, 8, 9, 10, 11, 12, 13, 14, 15, 16, 17, 18, 19, 20, 21, 22, 23] [] [0, 1, 2, 3, 4, 5, 6, 7, 8, 9, 10, 11, 12, 13, 14, 15, 16, 17, 18, 19, 20, 21, 22, 23] 24 rfl rfl rfl rfl rfl rfl rfl rfl rfl hk1 hFc hP1 hD1
      clear hk1 hPc hDc hFc hP1 hD1 ht
      refine lv_if_eq (tgt := 75) hx hb dX10_shift_58 rfl (fun c_3 => ?_) (fun c_3 => ?_)
      · have c_3 : ¬ ((-200 : Int32).toInt ≤ sx.toInt ∧ sx.toInt ≤ (200 : Int32).toInt) := zp_0 c_3
        exfalso; omega
      · have c_3 : (-200 : Int32).toInt ≤ sx.toInt ∧ sx.toInt ≤ (200 : Int32).toInt := zp_1 c_3
        refine lv_iload hx hb dX10_shift_61 (lv_at hl 5 rfl) ?_
        refine lv_sipush (v := (-200)) hx hb dX10_shift_63 rfl ?_
        refine lv_sipush (v := 200) hx hb dX10_shift_66 rfl ?_
        obtain ⟨hPc, hDc, hFc⟩ := zc_sub (wc := []) hP hD hS hA [] rfl rfl
        refine zcall (st1 := [.int (pI ((-200 : Int32).toInt ≤ sy.toInt ∧ sy.toInt ≤ (200 : Int32).toInt))]) (va_runS (As := [.int sy, .int (-200), .int 200]) (rest := []) ⟨hx, hb, hml, hown, hts⟩ (k_isWithin l dC dI cI cZ cF H.size sy (-200) 200 ) (csS_14 hts rfl rfl ⟨Nat.le_of_ble_eq_true rfl, Nat.le_of_ble_eq_true rfl⟩) (zPS2 hPc hDc hK3 hXN) rfl rfl hl.1 rfl (lv_room (Nat.le_of_ble_eq_true rfl)) dX10_shift_69 ⟨show 0 ≤ ft + 6 by omega, show 0 ≤ 4 * ft + 2 * nN (mn f0) + 815 by omega⟩) hS hFc hFc rfl (fun t H locs ht hB hk1 hS => ?_)
        obtain ⟨hP1, hD1⟩ := hB
        rw [ht] at hP1
        obtain ⟨hP, hD⟩ := zkQ (W2 := [(oc8 x (.ref sh) (.ref lw) (.ref ro) (.ref bq) (.ref bp) (.ref dq) (.ref dp) (.ref lv) (.ref sl) (nI dn) sd ul su), (oc10 sl mc9 (.ref ea) (nI T)), (oc3 lw (.ref dr) (.ref tg) (.ref wy) (.ref br) (.ref bo) (.ref aa)), (oc6 tg (.ref tx) (.ref ty) (nI nt) rt), (oa tx cI 3 TX), (oa ty cI 3 TY), (oc6 wy (.ref wx) (.ref wz) (nI nw) rw), (oa wx cI 2 WX), (oa wz cI 2 WY), (oc6 dr (.ref dx) (.ref dy) (nI nd) rd), (oa dx cI cd P), (oa dy cI cd Q), (oc0 br b1 b2 b3 b4), (oc0 bo b5 b6 b7 b8), (oc7 sh (.ref fa) (nI ft)), (oq fa cF 200 FA), (oc1 (fe f0) (rk f0) (wd f0) (tw f0) (pa f0) (pb f0) (.ref lo5) (.ref (la dn f0)) .null), (oc4 (la dn f0) (kd f0) (st f0) (.ref r5) (gb f0) (it f0) (nI we5)), (oc6 r5 (.ref rx5) (.ref ry5) (nI (nN (mn f0))) (rgK (kd f0).toInt)), (oa rx5 cI cap5 X5), (oa ry5 cI cap5 Y5), (oc6 lo5 (.ref lx5) (.ref ly5) (nI ln5) 0), (oa lx5 cI (cl f0) LX5), (oa ly5 cI (cl f0) LY5)]) hP hD [] [0, 1, 2, 3, 4, 5, 6, 7, 8, 9, 10, 11, 12, 13, 14, 15, 16, 17, 18, 19, 20, 21, 22, 23] [0, 1, 2, 3, 4, 5, 6, 7, 8, 9, 10, 11, 12, 13, 14, 15, 16, 17, 18, 19, 20, 21, 22, 23] [] [0, 1, 2, 3, 4, 5, 6, 7, 8, 9, 10, 11, 12, 13, 14, 15, 16, 17, 18, 19, 20, 21, 22, 23] 24 rfl rfl rfl rfl rfl rfl rfl rfl rfl hk1 hFc hP1 hD1
        clear hk1 hPc hDc hFc hP1 hD1 ht
        refine lv_if_ne (tgt := 81) hx hb dX10_shift_72 rfl (fun c_4 => ?_) (fun c_4 => ?_)
        · have c_4 : (-200 : Int32).toInt ≤ sy.toInt ∧ sy.toInt ≤ (200 : Int32).toInt := zp_1 c_4
          refine lv_iload hx hb dX10_shift_81 (lv_at hl 6 rfl) ?_
          refine lv_iconst (v := 0) hx hb dX10_shift_83 rfl ?_
          refine lv_bipush (v := 20) hx hb dX10_shift_84 rfl ?_
          obtain ⟨hPc, hDc, hFc⟩ := zc_sub (wc := []) hP hD hS hA [] rfl rfl
          refine zcall (st1 := [.int (pI ((0 : Int32).toInt ≤ (nI rr).toInt ∧ (nI rr).toInt ≤ (20 : Int32).toInt))]) (va_runS (As := [.int (nI rr), .int 0, .int 20]) (rest := []) ⟨hx, hb, hml, hown, hts⟩ (k_isWithin l dC dI cI cZ cF H.size (nI rr) 0 20 ) (csS_14 hts rfl rfl ⟨Nat.le_of_ble_eq_true rfl, Nat.le_of_ble_eq_true rfl⟩) (zPS2 hPc hDc hK3 hXN) rfl rfl hl.1 rfl (lv_room (Nat.le_of_ble_eq_true rfl)) dX10_shift_86 ⟨show 0 ≤ ft + 6 by omega, show 0 ≤ 4 * ft + 2 * nN (mn f0) + 815 by omega⟩) hS hFc hFc rfl (fun t H locs ht hB hk1 hS => ?_)
          obtain ⟨hP1, hD1⟩ := hB
          rw [ht] at hP1
          obtain ⟨hP, hD⟩ := zkQ (W2 := [(oc8 x (.ref sh) (.ref lw) (.ref ro) (.ref bq) (.ref bp) (.ref dq) (.ref dp) (.ref lv) (.ref sl) (nI dn) sd ul su), (oc10 sl mc9 (.ref ea) (nI T)), (oc3 lw (.ref dr) (.ref tg) (.ref wy) (.ref br) (.ref bo) (.ref aa)), (oc6 tg (.ref tx) (.ref ty) (nI nt) rt), (oa tx cI 3 TX), (oa ty cI 3 TY), (oc6 wy (.ref wx) (.ref wz) (nI nw) rw), (oa wx cI 2 WX), (oa wz cI 2 WY), (oc6 dr (.ref dx) (.ref dy) (nI nd) rd), (oa dx cI cd P), (oa dy cI cd Q), (oc0 br b1 b2 b3 b4), (oc0 bo b5 b6 b7 b8), (oc7 sh (.ref fa) (nI ft)), (oq fa cF 200 FA), (oc1 (fe f0) (rk f0) (wd f0) (tw f0) (pa f0) (pb f0) (.ref lo5) (.ref (la dn f0)) .null), (oc4 (la dn f0) (kd f0) (st f0) (.ref r5) (gb f0) (it f0) (nI we5)), (oc6 r5 (.ref rx5) (.ref ry5) (nI (nN (mn f0))) (rgK (kd f0).toInt)), (oa rx5 cI cap5 X5), (oa ry5 cI cap5 Y5), (oc6 lo5 (.ref lx5) (.ref ly5) (nI ln5) 0), (oa lx5 cI (cl f0) LX5), (oa ly5 cI (cl f0) LY5)]) hP hD [] [0, 1, 2, 3, 4, 5, 6, 7, 8, 9, 10, 11, 12, 13, 14, 15, 16, 17, 18, 19, 20, 21, 22, 23] [0, 1, 2, 3, 4, 5, 6, 7, 8, 9, 10, 11, 12, 13, 14, 15, 16, 17, 18, 19, 20, 21, 22, 23] [] [0, 1, 2, 3, 4, 5, 6, 7, 8, 9, 10, 11, 12, 13, 14, 15, 16, 17, 18, 19, 20, 21, 22, 23] 24 rfl rfl rfl rfl rfl rfl rfl rfl rfl hk1 hFc hP1 hD1
          clear hk1 hPc hDc hFc hP1 hD1 ht
          refine lv_if_ne (tgt := 98) hx hb dX10_shift_89 rfl (fun c_5 => ?_) (fun c_5 => ?_)
          · have c_5 : (0 : Int32).toInt ≤ (nI rr).toInt ∧ (nI rr).toInt ≤ (20 : Int32).toInt := zp_1 c_5
            refine lv_aload hx hb dX10_shift_98 (lv_at hl 0 rfl) ?_
            refine va_get (D := (dC, dI)) (ci := 1) (v := .ref (la dn f0)) (C := RX2) (T := TX2) (N := 8) hx hb hts inX2 hown hK hP 16 rfl rfl 6 (Nat.le_of_ble_eq_true rfl) (hts _ mw_433) (fun _ h9 => h9) rfl dX10_shift_100 ?_
            refine va_get (D := (dC, dI)) (ci := 4) (v := .ref r5) (C := RX5) (T := TX5) (N := 6) hx hb hts inX5 hown hK hP 17 rfl rfl 2 (Nat.le_of_ble_eq_true rfl) (hts _ mw_391) (fun _ h9 => h9) rfl dX10_shift_103 ?_
            refine lv_astore (lv' := [(7, .ref r5), (6, .ref (fe f0)), (0, .ref x), (1, .int (nI f0)), (2, .int (nI kk)), (3, .int sx), (4, .int sy), (5, .int (nI rr))]) hx hb dX10_shift_106 hl (Nat.le_of_ble_eq_true rfl) rfl (fun ls hl => ?_)
            refine lv_aload hx hb dX10_shift_108 (lv_at hl 0 rfl) ?_
            refine lv_ifnonnull (tgt := 119) hx hb dX10_shift_110 rfl ?_
            refine lv_aload_n hx hb dX10_shift_119 rfl (lv_at hl 2 rfl) ?_
            refine va_get (D := (dC, dI)) (ci := 8) (v := .ref lw) (C := RX10) (T := TX10) (N := 13) hx hb hts inX10 hown hK hP 0 rfl rfl 1 (Nat.le_of_ble_eq_true rfl) (hts _ mw_310) (fun _ h9 => h9) rfl dX10_shift_120 ?_
            refine va_get (D := (dC, dI)) (ci := 3) (v := .ref dr) (C := RX4) (T := TX4) (N := 6) hx hb hts inX4 hown hK hP 2 rfl rfl 0 (Nat.le_of_ble_eq_true rfl) (hts _ mw_220) (fun _ h9 => h9) rfl dX10_shift_123 ?_
            refine lv_aload hx hb dX10_shift_126 (lv_at hl 0 rfl) ?_
            obtain ⟨hPc, hDc, hFc⟩ := zc_sub (wc := [(oc6 dr (.ref dx) (.ref dy) (nI nd) rd), (oa dx cI cd P), (oa dy cI cd Q), (oc6 r5 (.ref rx5) (.ref ry5) (nI (nN (mn f0))) (rgK (kd f0).toInt)), (oa rx5 cI cap5 X5), (oa ry5 cI cap5 Y5)]) hP hD hS hA [9, 10, 11, 18, 19, 20] rfl rfl
            refine zcall (st1 := []) (va_runV (As := [.ref r5]) (rest := []) ⟨hx, hb, hml, hown, hts⟩ (k_Row_copyFrom l dC dI cI cZ cF H.size dr dx dy nd cd P Q rd r5 rx5 ry5 (nN (mn f0)) cap5 X5 Y5 (rgK (kd f0).toInt) (by first | with_reducible assumption | omega) (by first | with_reducible assumption | omega) (by first | with_reducible assumption | omega) (by first | with_reducible assumption | omega) (rgK_01 _)) (csV_120 hts rfl rfl ⟨Nat.le_of_ble_eq_true rfl, Nat.le_of_ble_eq_true rfl⟩) (zPV2 (q0 := 0) (ci := 6) hPc hDc hK3 hXN rfl rfl) rfl rfl hl.1 rfl (lv_room (Nat.le_of_ble_eq_true rfl)) dX10_shift_128 ⟨show 0 ≤ ft + 6 by omega, show 0 ≤ 4 * ft + 2 * nN (mn f0) + 815 by omega⟩) hS hFc hFc rfl (fun t H locs ht hB hk1 hS => ?_)
            obtain ⟨P6, Q6, hcp7, hP1, hD1⟩ := hB
            rw [ht] at hP1
            obtain ⟨hP, hD⟩ := zkQ (W2 := [(oc8 x (.ref sh) (.ref lw) (.ref ro) (.ref bq) (.ref bp) (.ref dq) (.ref dp) (.ref lv) (.ref sl) (nI dn) sd ul su), (oc10 sl mc9 (.ref ea) (nI T)), (oc3 lw (.ref dr) (.ref tg) (.ref wy) (.ref br) (.ref bo) (.ref aa)), (oc6 tg (.ref tx) (.ref ty) (nI nt) rt), (oa tx cI 3 TX), (oa ty cI 3 TY), (oc6 wy (.ref wx) (.ref wz) (nI nw) rw), (oa wx cI 2 WX), (oa wz cI 2 WY), (oc6 dr (.ref dx) (.ref dy) (nI (nN (mn f0))) (rgK (kd f0).toInt)), (oa dx cI cd P6), (oa dy cI cd Q6), (oc0 br b1 b2 b3 b4), (oc0 bo b5 b6 b7 b8), (oc7 sh (.ref fa) (nI ft)), (oq fa cF 200 FA), (oc1 (fe f0) (rk f0) (wd f0) (tw f0) (pa f0) (pb f0) (.ref lo5) (.ref (la dn f0)) .null), (oc4 (la dn f0) (kd f0) (st f0) (.ref r5) (gb f0) (it f0) (nI we5)), (oc6 r5 (.ref rx5) (.ref ry5) (nI (nN (mn f0))) (rgK (kd f0).toInt)), (oa rx5 cI cap5 X5), (oa ry5 cI cap5 Y5), (oc6 lo5 (.ref lx5) (.ref ly5) (nI ln5) 0), (oa lx5 cI (cl f0) LX5), (oa ly5 cI (cl f0) LY5)]) hP hD [9, 10, 11, 18, 19, 20] [0, 1, 2, 3, 4, 5, 6, 7, 8, 12, 13, 14, 15, 16, 17, 21, 22, 23] [0, 1, 2, 3, 4, 5, 6, 7, 8, 12, 13, 14, 15, 16, 17, 21, 22, 23] [9, 10, 11, 18, 19, 20] [0, 1, 2, 3, 4, 5, 6, 7, 8, 18, 19, 20, 9, 10, 11, 12, 13, 14, 21, 22, 23, 15, 16, 17] 24 rfl rfl rfl rfl rfl rfl rfl rfl rfl hk1 hFc hP1 hD1
            clear hk1 hPc hDc hFc hP1 hD1 ht
            refine lv_aload hx hb dX10_shift_131 (lv_at hl 1 rfl) ?_
            obtain ⟨hPc, hDc, hFc⟩ := zc_sub (wc := [(oc1 (fe f0) (rk f0) (wd f0) (tw f0) (pa f0) (pb f0) (.ref lo5) (.ref (la dn f0)) .null), (oc4 (la dn f0) (kd f0) (st f0) (.ref r5) (gb f0) (it f0) (nI we5))]) hP hD hS hA [16, 17] rfl rfl
            refine zcall (st1 := [.int (pI (1 ≤ (kd f0).toInt ∧ (kd f0).toInt ≤ 5))]) (va_runV (As := []) (rest := []) ⟨hx, hb, hml, hown, hts⟩ (k_Feature_bends_r l dC dI cI cZ cF H.size (fe f0) lo5 (rk f0) (wd f0) (tw f0) (pa f0) (pb f0) (la dn f0) (kd f0) (st f0) (gb f0) (it f0) (nI we5) r5 ) (csV_97 hts rfl rfl ⟨Nat.le_of_ble_eq_true rfl, Nat.le_of_ble_eq_true rfl⟩) (zPV2 (q0 := 0) (ci := 1) hPc hDc hK3 hXN rfl rfl) rfl rfl hl.1 rfl (lv_room (Nat.le_of_ble_eq_true rfl)) dX10_shift_133 ⟨show 0 ≤ ft + 6 by omega, show 0 ≤ 4 * ft + 2 * nN (mn f0) + 815 by omega⟩) hS hFc hFc rfl (fun t H locs ht hB hk1 hS => ?_)
            obtain ⟨hP1, hD1⟩ := hB
            rw [ht] at hP1
            obtain ⟨hP, hD⟩ := zkQ (W2 := [(oc8 x (.ref sh) (.ref lw) (.ref ro) (.ref bq) (.ref bp) (.ref dq) (.ref dp) (.ref lv) (.ref sl) (nI dn) sd ul su), (oc10 sl mc9 (.ref ea) (nI T)), (oc3 lw (.ref dr) (.ref tg) (.ref wy) (.ref br) (.ref bo) (.ref aa)), (oc6 tg (.ref tx) (.ref ty) (nI nt) rt), (oa tx cI 3 TX), (oa ty cI 3 TY), (oc6 wy (.ref wx) (.ref wz) (nI nw) rw), (oa wx cI 2 WX), (oa wz cI 2 WY), (oc6 dr (.ref dx) (.ref dy) (nI (nN (mn f0))) (rgK (kd f0).toInt)), (oa dx cI cd P6), (oa dy cI cd Q6), (oc0 br b1 b2 b3 b4), (oc0 bo b5 b6 b7 b8), (oc7 sh (.ref fa) (nI ft)), (oq fa cF 200 FA), (oc1 (fe f0) (rk f0) (wd f0) (tw f0) (pa f0) (pb f0) (.ref lo5) (.ref (la dn f0)) .null), (oc4 (la dn f0) (kd f0) (st f0) (.ref r5) (gb f0) (it f0) (nI we5)), (oc6 r5 (.ref rx5) (.ref ry5) (nI (nN (mn f0))) (rgK (kd f0).toInt)), (oa rx5 cI cap5 X5), (oa ry5 cI cap5 Y5), (oc6 lo5 (.ref lx5) (.ref ly5) (nI ln5) 0), (oa lx5 cI (cl f0) LX5), (oa ly5 cI (cl f0) LY5)]) hP hD [16, 17] [0, 1, 2, 3, 4, 5, 6, 7, 8, 9, 10, 11, 12, 13, 14, 15, 18, 19, 20, 21, 22, 23] [0, 1, 2, 3, 4, 5, 6, 7, 8, 9, 10, 11, 12, 13, 14, 15, 18, 19, 20, 21, 22, 23] [16, 17] [0, 1, 2, 3, 4, 5, 6, 7, 8, 9, 10, 11, 12, 13, 14, 15, 22, 23, 16, 17, 18, 19, 20, 21] 24 rfl rfl rfl rfl rfl rfl rfl rfl rfl hk1 hFc hP1 hD1
            clear hk1 hPc hDc hFc hP1 hD1 ht
            refine lv_if_eq (tgt := 158) hx hb dX10_shift_136 rfl (fun c_6 => ?_) (fun c_6 => ?_)
            · have c_6 : ¬ (1 ≤ (kd f0).toInt ∧ (kd f0).toInt ≤ 5) := zp_0 c_6
              exfalso; exact absurd hkd (by first | with_reducible assumption | assumption)
            · have c_6 : 1 ≤ (kd f0).toInt ∧ (kd f0).toInt ≤ 5 := zp_1 c_6
              refine lv_aload_n hx hb dX10_shift_139 rfl (lv_at hl 2 rfl) ?_
              refine va_get (D := (dC, dI)) (ci := 8) (v := .ref lw) (C := RX10) (T := TX10) (N := 13) hx hb hts inX10 hown hK hP 0 rfl rfl 1 (Nat.le_of_ble_eq_true rfl) (hts _ mw_310) (fun _ h9 => h9) rfl dX10_shift_140 ?_
              refine va_get (D := (dC, dI)) (ci := 3) (v := .ref dr) (C := RX4) (T := TX4) (N := 6) hx hb hts inX4 hown hK hP 2 rfl rfl 0 (Nat.le_of_ble_eq_true rfl) (hts _ mw_220) (fun _ h9 => h9) rfl dX10_shift_143 ?_
              refine lv_iload_n hx hb dX10_shift_146 rfl (lv_at hl 4 rfl) ?_
              refine lv_iload_n hx hb dX10_shift_147 rfl (lv_at hl 5 rfl) ?_
              refine lv_iload hx hb dX10_shift_148 (lv_at hl 6 rfl) ?_
              refine lv_iload hx hb dX10_shift_150 (lv_at hl 7 rfl) ?_
              obtain ⟨hPc, hDc, hFc⟩ := zc_sub (wc := [(oc6 dr (.ref dx) (.ref dy) (nI (nN (mn f0))) (rgK (kd f0).toInt)), (oa dx cI cd P6), (oa dy cI cd Q6)]) hP hD hS hA [9, 10, 11] rfl rfl
              refine zcall (st1 := []) (va_runV (As := [.int (nI kk), .int sx, .int sy, .int (nI rr)]) (rest := []) ⟨hx, hb, hml, hown, hts⟩ (k_Row_pull l dC dI cI cZ cF H.size dr dx dy (nN (mn f0)) cd P6 Q6 (rgK (kd f0).toInt) kk rr sx sy ((kd f0).toInt) (by first | with_reducible assumption | omega) (by first | with_reducible assumption | omega) (by first | with_reducible assumption | omega) (by first | with_reducible assumption | omega) (by first | with_reducible assumption | omega) (rgK_0 _)) (csV_121 hts rfl rfl ⟨Nat.le_of_ble_eq_true rfl, Nat.le_of_ble_eq_true rfl⟩) (zPV2 (q0 := 0) (ci := 6) hPc hDc hK3 hXN rfl rfl) rfl rfl hl.1 rfl (lv_room (Nat.le_of_ble_eq_true rfl)) dX10_shift_152 ⟨show 0 ≤ ft + 6 by omega, show 0 ≤ 4 * ft + 2 * nN (mn f0) + 815 by omega⟩) hS hFc hFc rfl (fun t H locs ht hB hk1 hS => ?_)
              obtain ⟨P7, Q7, hall7, hP1, hD1⟩ := hB
              rw [ht] at hP1
              obtain ⟨hP, hD⟩ := zkQ (W2 := [(oc8 x (.ref sh) (.ref lw) (.ref ro) (.ref bq) (.ref bp) (.ref dq) (.ref dp) (.ref lv) (.ref sl) (nI dn) sd ul su), (oc10 sl mc9 (.ref ea) (nI T)), (oc3 lw (.ref dr) (.ref tg) (.ref wy) (.ref br) (.ref bo) (.ref aa)), (oc6 tg (.ref tx) (.ref ty) (nI nt) rt), (oa tx cI 3 TX), (oa ty cI 3 TY), (oc6 wy (.ref wx) (.ref wz) (nI nw) rw), (oa wx cI 2 WX), (oa wz cI 2 WY), (oc6 dr (.ref dx) (.ref dy) (nI (nN (mn f0))) (rgK (kd f0).toInt)), (oa dx cI cd P7), (oa dy cI cd Q7), (oc0 br b1 b2 b3 b4), (oc0 bo b5 b6 b7 b8), (oc7 sh (.ref fa) (nI ft)), (oq fa cF 200 FA), (oc1 (fe f0) (rk f0) (wd f0) (tw f0) (pa f0) (pb f0) (.ref lo5) (.ref (la dn f0)) .null), (oc4 (la dn f0) (kd f0) (st f0) (.ref r5) (gb f0) (it f0) (nI we5)), (oc6 r5 (.ref rx5) (.ref ry5) (nI (nN (mn f0))) (rgK (kd f0).toInt)), (oa rx5 cI cap5 X5), (oa ry5 cI cap5 Y5), (oc6 lo5 (.ref lx5) (.ref ly5) (nI ln5) 0), (oa lx5 cI (cl f0) LX5), (oa ly5 cI (cl f0) LY5)]) hP hD [9, 10, 11] [0, 1, 2, 3, 4, 5, 6, 7, 8, 12, 13, 14, 15, 16, 17, 18, 19, 20, 21, 22, 23] [0, 1, 2, 3, 4, 5, 6, 7, 8, 12, 13, 14, 15, 16, 17, 18, 19, 20, 21, 22, 23] [9, 10, 11] [0, 1, 2, 3, 4, 5, 6, 7, 8, 21, 22, 23, 9, 10, 11, 12, 13, 14, 15, 16, 17, 18, 19, 20] 24 rfl rfl rfl rfl rfl rfl rfl rfl rfl hk1 hFc hP1 hD1
              clear hk1 hPc hDc hFc hP1 hD1 ht
              refine lv_goto (tgt := 171) hx hb dX10_shift_155 rfl ?_
              have hv7 : ∀ k, k < nN (mn f0) → P7 k = (fun i => shV (kd f0).toInt (nN (mn f0)) kk sx rr (cF40 cx f0) i) k ∧ Q7 k = (fun i => shV (kd f0).toInt (nN (mn f0)) kk sy rr (cF40 cy f0) i) k := fun k hk => ⟨sh_hv hk (fun j hj => (hcp7 j hj).1.trans (hX5 j hj).1) (hall7 k hk).1, sh_hv hk (fun j hj => (hcp7 j hj).2.trans (hX5 j hj).2) (hall7 k hk).2⟩
              refine lv_aload_n hx hb dX10_shift_171 rfl (lv_at hl 2 rfl) ?_
              refine lv_aload hx hb dX10_shift_172 (lv_at hl 1 rfl) ?_
              refine lv_iload_n hx hb dX10_shift_174 rfl (lv_at hl 3 rfl) ?_
              refine lv_iconst (v := 3) hx hb dX10_shift_175 rfl ?_
              obtain ⟨hPc, hDc, hFc⟩ := zc_part (cx := [(oc8 x (.ref sh) (.ref lw) (.ref ro) (.ref bq) (.ref bp) (.ref dq) (.ref dp) (.ref lv) (.ref sl) (nI dn) sd ul su), (oc10 sl mc9 (.ref ea) (nI T)), (oc3 lw (.ref dr) (.ref tg) (.ref wy) (.ref br) (.ref bo) (.ref aa)), (oc6 tg (.ref tx) (.ref ty) (nI nt) rt), (oa tx cI 3 TX), (oa ty cI 3 TY), (oc6 wy (.ref wx) (.ref wz) (nI nw) rw), (oa wx cI 2 WX), (oa wz cI 2 WY), (oc6 dr (.ref dx) (.ref dy) (nI (nN (mn f0))) (rgK (kd f0).toInt)), (oa dx cI cd P7), (oa dy cI cd Q7), (oc0 br b1 b2 b3 b4), (oc0 bo b5 b6 b7 b8), (oc1 (fe f0) (rk f0) (wd f0) (tw f0) (pa f0) (pb f0) (.ref lo5) (.ref (la dn f0)) .null), (oc4 (la dn f0) (kd f0) (st f0) (.ref r5) (gb f0) (it f0) (nI we5)), (oc6 r5 (.ref rx5) (.ref ry5) (nI (nN (mn f0))) (rgK (kd f0).toInt)), (oa rx5 cI cap5 X5), (oa ry5 cI cap5 Y5), (oc6 lo5 (.ref lx5) (.ref ly5) (nI ln5) 0), (oa lx5 cI (cl f0) LX5), (oa ly5 cI (cl f0) LY5), (oc7 sh (.ref fa) (nI ft)), (oq fa cF 200 FA)]) hP hD hS hA [0, 1, 2, 3, 4, 5, 6, 7, 8, 9, 10, 11, 12, 13, 16, 17, 18, 19, 20, 21, 22, 23, 14, 15] rfl rfl
              refine zcall (st1 := [.int 1]) (va_runV (As := [.ref (fe f0), .int (nI f0), .int 3]) (rest := []) ⟨hx, hb, hml, hown, hts⟩ (k_moveTo_m_y l dC dI cI cZ cF H.size cO e0 mi x sh lw ro bq bp dq dp lv sl sd ul su ea mc9 fa FA bs dn T ft FT V VX VY tn rk wd tw pa pb wh of9 we kd st gb it mn cx cy T_1 f L f0 own fe cl la sp SA lo5 lx5 ly5 ln5 LX5 LY5 we5 r5 rx5 ry5 cap5 X5 Y5 dr tg wy br bo aa tx ty nt TX TY rt wx wz nw WX WY rw dx dy cd P7 Q7 b1 b2 b3 b4 b5 b6 b7 b8 3 (fgX f0 (nN (mn f0)) (fun i => shV (kd f0).toInt (nN (mn f0)) kk sx rr (cF40 cx f0) i) cx) (fgX f0 (nN (mn f0)) (fun i => shV (kd f0).toInt (nN (mn f0)) kk sy rr (cF40 cy f0) i) cy) (hG9) (hH9) (hft9) (hc5) (hT_1) (by first | with_reducible assumption | assumption) (by first | with_reducible assumption | assumption) (hst) (hwf) (hkn) (by first | with_reducible assumption | omega) (by have := hkn0; have := hsm.1; omega) (by first | with_reducible assumption | omega) (((alM_cx hw1.1 hX5).trans (alM_lw (VX := fun i => shV (kd f0).toInt (nN (mn f0)) kk sx rr (cF40 cx f0) i) (VY := fun i => shV (kd f0).toInt (nN (mn f0)) kk sy rr (cF40 cy f0) i) (by first | with_reducible assumption | omega) (by first | with_reducible assumption | omega) (hsm.2 (by first | with_reducible assumption | omega)).1 hv7 hwf hkn)).mpr hlaw) (fun h => absurd hmv ((mv_alk hv7 hX5).mp h)) (fun k hk => by rw [fgX_f k hk, fgX_f k hk]; exact hv7 k hk) (fun j hj => ⟨fgX_o (by first | with_reducible assumption | omega), fgX_o (by first | with_reducible assumption | omega)⟩)) (csV_117 hts rfl rfl ⟨Nat.le_of_ble_eq_true rfl, Nat.le_of_ble_eq_true rfl⟩) (zPVL (q0 := 0) (ci := 8) hPc hDc hK hXL hS hFc rfl rfl) rfl rfl hl.1 rfl (lv_room (Nat.le_of_ble_eq_true rfl)) dX10_shift_176 ⟨show (0 + (ft + 6)) ≤ ft + 6 by omega, show (0 + (4 * ft + 2 * nN (mn f0) + 815)) ≤ 4 * ft + 2 * nN (mn f0) + 815 by omega⟩) hS hFc hFc rfl (fun t H locs ht hB hk1 hS => ?_)
              obtain ⟨mc8, L8, f8, ea8, nt8, TX8, TY8, rt8, nw8, WX8, WY8, rw8, g08, g18, g28, g38, g48, g58, g68, g78, hB6, hP1, hD1⟩ := hB
              rw [ht] at hP1
              obtain ⟨hP, hD⟩ := zkP (W2 := [(oc8 x (.ref sh) (.ref lw) (.ref ro) (.ref bq) (.ref bp) (.ref dq) (.ref dp) (.ref lv) (.ref sl) (nI (dn + 1)) sd ul 0), (oc10 sl mc8 (.ref ea8) (nI (dn + 1))), (oc3 lw (.ref dr) (.ref tg) (.ref wy) (.ref br) (.ref bo) (.ref aa)), (oc6 tg (.ref tx) (.ref ty) (nI nt8) rt8), (oa tx cI 3 TX8), (oa ty cI 3 TY8), (oc6 wy (.ref wx) (.ref wz) (nI nw8) rw8), (oa wx cI 2 WX8), (oa wz cI 2 WY8), (oc6 dr (.ref dx) (.ref dy) (nI (nN (mn f0))) (rgK (kd f0).toInt)), (oa dx cI cd P7), (oa dy cI cd Q7), (oc0 br g08 g18 g28 g38), (oc0 bo g48 g58 g68 g78), (oc7 sh (.ref fa) (nI ft)), (oq fa cF 200 FA)]) hP hD [0, 1, 2, 3, 4, 5, 6, 7, 8, 9, 10, 11, 12, 13, 16, 17, 18, 19, 20, 21, 22, 23, 14, 15] [] [] [0, 1, 2, 3, 4, 5, 6, 7, 8, 9, 10, 11, 12, 13, 14, 15] [0, 1, 2, 3, 4, 5, 6, 7, 8, 9, 10, 11, 12, 13, 14, 15] 16 rfl rfl rfl rfl rfl rfl rfl rfl rfl hk1 hFc hP1 hD1
              clear hk1 hPc hDc hFc hP1 hD1 ht
              obtain ⟨hP9, hD9⟩ := zq_part (cx := [(oc8 x (.ref sh) (.ref lw) (.ref ro) (.ref bq) (.ref bp) (.ref dq) (.ref dp) (.ref lv) (.ref sl) (nI (dn + 1)) sd ul 0), (oc10 sl mc8 (.ref ea8) (nI (dn + 1))), (oc3 lw (.ref dr) (.ref tg) (.ref wy) (.ref br) (.ref bo) (.ref aa)), (oc6 tg (.ref tx) (.ref ty) (nI nt8) rt8), (oa tx cI 3 TX8), (oa ty cI 3 TY8), (oc6 wy (.ref wx) (.ref wz) (nI nw8) rw8), (oa wx cI 2 WX8), (oa wz cI 2 WY8), (oc6 dr (.ref dx) (.ref dy) (nI (nN (mn f0))) (rgK (kd f0).toInt)), (oa dx cI cd P7), (oa dy cI cd Q7), (oc0 br g08 g18 g28 g38), (oc0 bo g48 g58 g68 g78), (oc7 sh (.ref fa) (nI ft)), (oq fa cF 200 FA)]) hP hD [0, 1, 2, 3, 4, 5, 6, 7, 8, 9, 10, 11, 12, 13, 14, 15] rfl rfl
              refine W.widen (k := ft + 6) (n := 4 * ft + 2 * nN (mn f0) + 815) (by omega) (by omega) ?_
              rw [hQ9]
              exact W.zret (ty := .boolean) (v := 1) hx hb hr (rfl) (fun t ht hW => ⟨⟨rfl, mc8, L8, f8, ea8, nt8, TX8, TY8, rt8, nw8, WX8, WY8, rw8, g08, g18, g28, g38, g48, g58, g68, g78, P7, Q7, (hB6), by rw [ht]; exact hP9, hD9⟩, hS.F ht⟩) hS.2.2 dX10_shift_179
          · have c_5 : ¬ ((0 : Int32).toInt ≤ (nI rr).toInt ∧ (nI rr).toInt ≤ (20 : Int32).toInt) := zp_0 c_5
            exfalso; omega
        · have c_4 : ¬ ((-200 : Int32).toInt ≤ sy.toInt ∧ sy.toInt ≤ (200 : Int32).toInt) := zp_0 c_4
          exfalso; omega
    · have c_2 : ¬ (st f0).toInt = 1 := zc_ne rfl rfl c_2
      exfalso; omega
  · have c_1 : ¬ (0 ≤ (nI kk).toInt ∧ (nI kk).toInt < (((nN (mn f0)) : Nat) : Int)) := zp_0 c_1
    exfalso; omega
set_option maxHeartbeats 4000000 in
set_option maxRecDepth 100000 in
theorem k_shiftp_n (l : Launch) (dC : Nat → ClassId) (dI : Nat → Nat → Nat) (cI cZ cF : ClassId) (sz : Nat) (cO : ClassId) (e0 : Nat) (mi : Nat) (x : Nat) (sh : Nat) (lw : Nat) (ro : Nat) (bq : Nat) (bp : Nat) (dq : Nat) (dp : Nat) (lv : Nat) (sl : Nat) (sd : Int32) (ul : Int32) (su : Int32) (ea : Nat) (mc9 : Int32) (fa : Nat) (FA : Nat → Option Nat) (bs : Nat) (dn : Nat) (T : Nat) (ft : Nat) (FT : Nat → Nat) (V : Nat → Nat → Nat → Int32) (VX : Nat → Nat → Int32) (VY : Nat → Nat → Int32) (tn : Nat → Int32) (rk : Nat → Int32) (wd : Nat → Int32) (tw : Nat → Int32) (pa : Nat → Int32) (pb : Nat → Int32) (wh : Nat → Int32) (of9 : Nat → Int32) (we : Nat → Int32) (kd : Nat → Int32) (st : Nat → Int32) (gb : Nat → Int32) (it : Nat → Int32) (mn : Nat → Int32) (cx : Nat → Int32) (cy : Nat → Int32) (L : List Nat) (f : Nat → va_E) (f0 : Nat) (dr : Nat) (tg : Nat) (wy : Nat) (br : Nat) (bo : Nat) (aa : Nat) (tx : Nat) (ty : Nat) (nt : Nat) (TX : Nat → Int32) (TY : Nat → Int32) (rt : Int32) (wx : Nat) (wz : Nat) (nw : Nat) (WX : Nat → Int32) (WY : Nat → Int32) (rw : Int32) (dx : Nat) (dy : Nat) (nd : Nat) (cd : Nat) (P : Nat → Int32) (Q : Nat → Int32) (rd : Int32) (b1 : Int32) (b2 : Int32) (b3 : Int32) (b4 : Int32) (b5 : Int32) (b6 : Int32) (b7 : Int32) (b8 : Int32) (kk : Nat) (rr : Nat) (sx : Int32) (sy : Int32) (hB : shB cI cO L f e0 FA ea bs dn T ft FT V VX VY tn rk wd tw pa pb wh of9 we kd st gb it mn cx cy) (hf0 : f0 < ft) (htn : (tn f0).toInt = 0) (hst : (st f0).toInt = 1) (hwf : ∀ q, lvF ft st tn q → wfM mn cx cy q) (hkn : okN ft st tn kd mn) (hsm : mSm (kd f0).toInt (nN (mn f0)) (cF40 cx f0) (cF40 cy f0)) (hcd : 40 ≤ cd ∧ cd ≤ 1000) (hkk : kk < nN (mn f0)) (hrr : rr ≤ 20) (hdx : -200 ≤ sx.toInt ∧ sx.toInt ≤ 200) (hdy : -200 ≤ sy.toInt ∧ sy.toInt ≤ 200) (hkd : 1 ≤ (kd f0).toInt ∧ (kd f0).toInt ≤ 5) (hbad : ¬ ((lwM ft st tn kd mn cx cy f0 (nN (mn f0)) (fun i => shV (kd f0).toInt (nN (mn f0)) kk sx rr (cF40 cx f0) i) (fun i => shV (kd f0).toInt (nN (mn f0)) kk sy rr (cF40 cy f0) i)) ∧ mvd (nN (mn f0)) (fun i => shV (kd f0).toInt (nN (mn f0)) kk sx rr (cF40 cx f0) i) (fun i => shV (kd f0).toInt (nN (mn f0)) kk sy rr (cF40 cy f0) i) (cF40 cx f0) (cF40 cy f0))) : Met l yX10_shift (.code yX10_shift cX10_shift 8 (some .boolean) :: ws0) ({ frames := 6, cells := 0, slots := 0, locals := 155 } : Room) (va_Pc [.ref x, .int (nI f0), .int (nI kk), .int sx, .int sy, .int (nI rr)] (zPre (dC, dI) classes (zTyO cI cZ cF cO) ([(oc8 x (.ref sh) (.ref lw) (.ref ro) (.ref bq) (.ref bp) (.ref dq) (.ref dp) (.ref lv) (.ref sl) (nI dn) sd ul su), (oc10 sl mc9 (.ref ea) (nI T)), (oc3 lw (.ref dr) (.ref tg) (.ref wy) (.ref br) (.ref bo) (.ref aa)), (oc6 tg (.ref tx) (.ref ty) (nI nt) rt), (oa tx cI 3 TX), (oa ty cI 3 TY), (oc6 wy (.ref wx) (.ref wz) (nI nw) rw), (oa wx cI 2 WX), (oa wz cI 2 WY), (oc6 dr (.ref dx) (.ref dy) (nI nd) rd), (oa dx cI cd P), (oa dy cI cd Q), (oc0 br b1 b2 b3 b4), (oc0 bo b5 b6 b7 b8), (oc7 sh (.ref fa) (nI ft)), (oq fa cF 200 FA)] ++ va_pl L f) sz (zXL e0 mi (va_A ([(oc8 x (.ref sh) (.ref lw) (.ref ro) (.ref bq) (.ref bp) (.ref dq) (.ref dp) (.ref lv) (.ref sl) (nI dn) sd ul su), (oc10 sl mc9 (.ref ea) (nI T)), (oc3 lw (.ref dr) (.ref tg) (.ref wy) (.ref br) (.ref bo) (.ref aa)), (oc6 tg (.ref tx) (.ref ty) (nI nt) rt), (oa tx cI 3 TX), (oa ty cI 3 TY), (oc6 wy (.ref wx) (.ref wz) (nI nw) rw), (oa wx cI 2 WX), (oa wz cI 2 WY), (oc6 dr (.ref dx) (.ref dy) (nI nd) rd), (oa dx cI cd P), (oa dy cI cd Q), (oc0 br b1 b2 b3 b4), (oc0 bo b5 b6 b7 b8), (oc7 sh (.ref fa) (nI ft)), (oq fa cF 200 FA)] ++ va_pl L f) sz)))) (zQ (some (.int 0)) (fun t => ∃ (ul1 : Int32), ∃ (su1 : Int32), ∃ (nt1 : Nat), ∃ (TX1 : Nat → Int32), ∃ (TY1 : Nat → Int32), ∃ (rt1 : Int32), ∃ (nw1 : Nat), ∃ (WX1 : Nat → Int32), ∃ (WY1 : Nat → Int32), ∃ (rw1 : Int32), ∃ (d5 : Int32), ∃ (d6 : Int32), ∃ (d7 : Int32), ∃ (d8 : Int32), ∃ (e5 : Int32), ∃ (e6 : Int32), ∃ (e7 : Int32), ∃ (e8 : Int32), ∃ (P1 : Nat → Int32), ∃ (Q1 : Nat → Int32), va_P (dC, dI) classes ([(oc8 x (.ref sh) (.ref lw) (.ref ro) (.ref bq) (.ref bp) (.ref dq) (.ref dp) (.ref lv) (.ref sl) (nI dn) sd ul1 su1), (oc10 sl mc9 (.ref ea) (nI T)), (oc3 lw (.ref dr) (.ref tg) (.ref wy) (.ref br) (.ref bo) (.ref aa)), (oc6 tg (.ref tx) (.ref ty) (nI nt1) rt1), (oa tx cI 3 TX1), (oa ty cI 3 TY1), (oc6 wy (.ref wx) (.ref wz) (nI nw1) rw1), (oa wx cI 2 WX1), (oa wz cI 2 WY1), (oc6 dr (.ref dx) (.ref dy) (nI (nN (mn f0))) (rgK (kd f0).toInt)), (oa dx cI cd P1), (oa dy cI cd Q1), (oc0 br d5 d6 d7 d8), (oc0 bo e5 e6 e7 e8), (oc7 sh (.ref fa) (nI ft)), (oq fa cF 200 FA)] ++ va_pl L f) t.heap ∧ va_D (va_A ([(oc8 x (.ref sh) (.ref lw) (.ref ro) (.ref bq) (.ref bp) (.ref dq) (.ref dp) (.ref lv) (.ref sl) (nI dn) sd ul su), (oc10 sl mc9 (.ref ea) (nI T)), (oc3 lw (.ref dr) (.ref tg) (.ref wy) (.ref br) (.ref bo) (.ref aa)), (oc6 tg (.ref tx) (.ref ty) (nI nt) rt), (oa tx cI 3 TX), (oa ty cI 3 TY), (oc6 wy (.ref wx) (.ref wz) (nI nw) rw), (oa wx cI 2 WX), (oa wz cI 2 WY), (oc6 dr (.ref dx) (.ref dy) (nI nd) rd), (oa dx cI cd P), (oa dy cI cd Q), (oc0 br b1 b2 b3 b4), (oc0 bo b5 b6 b7 b8), (oc7 sh (.ref fa) (nI ft)), (oq fa cF 200 FA)] ++ va_pl L f) sz) ([(oc8 x (.ref sh) (.ref lw) (.ref ro) (.ref bq) (.ref bp) (.ref dq) (.ref dp) (.ref lv) (.ref sl) (nI dn) sd ul1 su1), (oc10 sl mc9 (.ref ea) (nI T)), (oc3 lw (.ref dr) (.ref tg) (.ref wy) (.ref br) (.ref bo) (.ref aa)), (oc6 tg (.ref tx) (.ref ty) (nI nt1) rt1), (oa tx cI 3 TX1), (oa ty cI 3 TY1), (oc6 wy (.ref wx) (.ref wz) (nI nw1) rw1), (oa wx cI 2 WX1), (oa wz cI 2 WY1), (oc6 dr (.ref dx) (.ref dy) (nI (nN (mn f0))) (rgK (kd f0).toInt)), (oa dx cI cd P1), (oa dy cI cd Q1), (oc0 br d5 d6 d7 d8), (oc0 bo e5 e6 e7 e8), (oc7 sh (.ref fa) (nI ft)), (oq fa cF 200 FA)] ++ va_pl L f)) (va_A ([(oc8 x (.ref sh) (.ref lw) (.ref ro) (.ref bq) (.ref bp) (.ref dq) (.ref dp) (.ref lv) (.ref sl) (nI dn) sd ul su), (oc10 sl mc9 (.ref ea) (nI T)), (oc3 lw (.ref dr) (.ref tg) (.ref wy) (.ref br) (.ref bo) (.ref aa)), (oc6 tg (.ref tx) (.ref ty) (nI nt) rt), (oa tx cI 3 TX), (oa ty cI 3 TY), (oc6 wy (.ref wx) (.ref wz) (nI nw) rw), (oa wx cI 2 WX), (oa wz cI 2 WY), (oc6 dr (.ref dx) (.ref dy) (nI nd) rd), (oa dx cI cd P), (oa dy cI cd Q), (oc0 br b1 b2 b3 b4), (oc0 bo b5 b6 b7 b8), (oc7 sh (.ref fa) (nI ft)), (oq fa cF 200 FA)] ++ va_pl L f) sz)) 0 0 (va_A ([(oc8 x (.ref sh) (.ref lw) (.ref ro) (.ref bq) (.ref bp) (.ref dq) (.ref dp) (.ref lv) (.ref sl) (nI dn) sd ul su), (oc10 sl mc9 (.ref ea) (nI T)), (oc3 lw (.ref dr) (.ref tg) (.ref wy) (.ref br) (.ref bo) (.ref aa)), (oc6 tg (.ref tx) (.ref ty) (nI nt) rt), (oa tx cI 3 TX), (oa ty cI 3 TY), (oc6 wy (.ref wx) (.ref wz) (nI nw) rw), (oa wx cI 2 WX), (oa wz cI 2 WY), (oc6 dr (.ref dx) (.ref dy) (nI nd) rd), (oa dx cI cd P), (oa dy cI cd Q), (oc0 br b1 b2 b3 b4), (oc0 bo b5 b6 b7 b8), (oc7 sh (.ref fa) (nI ft)), (oq fa cF 200 FA)] ++ va_pl L f) sz) := by
  refine Met.ofW (cc := cX10_shift) (maxL := 8) (ret := (some .boolean)) rfl rfl ?_
  intro p e s m args below meth c s₁ B hml hv
  obtain ⟨rfl, hsz, hP, hK, hD0, hXL⟩ := hv
  have hx := B.exec
  have hb := B.bytes
  have hr := B.returns
  have hts0 := atoms_spec (ws := .code yX10_shift cX10_shift 8 (some .boolean) :: ws0) B.pre
  have hts : ∀ w9 ∈ ws0, w9.before ([.ref x, .int (nI f0), .int (nI kk), .int sx, .int sy, .int (nI rr)] : List Value).toArray s = true := fun w9 h => hts0 w9 (List.mem_cons_of_mem _ h)
  have hown : s.vm.findClass "ScaleShop" = some m.cls := findClass_of_methodNamed B.named
  have hlocks := B.notSynchronized
  subst hsz
  have hD := hD0.self (sz := s.heap.size)
  clear hD0
  generalize hAe : va_A ([(oc8 x (.ref sh) (.ref lw) (.ref ro) (.ref bq) (.ref bp) (.ref dq) (.ref dp) (.ref lv) (.ref sl) (nI dn) sd ul su), (oc10 sl mc9 (.ref ea) (nI T)), (oc3 lw (.ref dr) (.ref tg) (.ref wy) (.ref br) (.ref bo) (.ref aa)), (oc6 tg (.ref tx) (.ref ty) (nI nt) rt), (oa tx cI 3 TX), (oa ty cI 3 TY), (oc6 wy (.ref wx) (.ref wz) (nI nw) rw), (oa wx cI 2 WX), (oa wz cI 2 WY), (oc6 dr (.ref dx) (.ref dy) (nI nd) rd), (oa dx cI cd P), (oa dy cI cd Q), (oc0 br b1 b2 b3 b4), (oc0 bo b5 b6 b7 b8), (oc7 sh (.ref fa) (nI ft)), (oq fa cF 200 FA)] ++ va_pl L f) s.heap.size = A at hD hXL ⊢
  have hA : ∀ q : Nat, s.heap.size ≤ q → A q := fun q h => by rw [← hAe]; exact Or.inr h
  clear hAe
  have hS : va_S A s.heap s.heap [] := va_S.rf
  have hXN := hXL.1
  have hK3 := hK.sub [0, 1, 2] rfl
  have hP : va_P (dC, dI) classes ([(oc8 x (.ref sh) (.ref lw) (.ref ro) (.ref bq) (.ref bp) (.ref dq) (.ref dp) (.ref lv) (.ref sl) (nI dn) sd ul su), (oc10 sl mc9 (.ref ea) (nI T)), (oc3 lw (.ref dr) (.ref tg) (.ref wy) (.ref br) (.ref bo) (.ref aa)), (oc6 tg (.ref tx) (.ref ty) (nI nt) rt), (oa tx cI 3 TX), (oa ty cI 3 TY), (oc6 wy (.ref wx) (.ref wz) (nI nw) rw), (oa wx cI 2 WX), (oa wz cI 2 WY), (oc6 dr (.ref dx) (.ref dy) (nI nd) rd), (oa dx cI cd P), (oa dy cI cd Q), (oc0 br b1 b2 b3 b4), (oc0 bo b5 b6 b7 b8), (oc7 sh (.ref fa) (nI ft)), (oq fa cF 200 FA)] ++ va_pl L f) s.heap := hP
  obtain ⟨Q9, hQ9⟩ : ∃ Q9 : State → Prop, Q9 = MQ below (zQ (some (.int 0)) (fun t => ∃ (ul1 : Int32), ∃ (su1 : Int32), ∃ (nt1 : Nat), ∃ (TX1 : Nat → Int32), ∃ (TY1 : Nat → Int32), ∃ (rt1 : Int32), ∃ (nw1 : Nat), ∃ (WX1 : Nat → Int32), ∃ (WY1 : Nat → Int32), ∃ (rw1 : Int32), ∃ (d5 : Int32), ∃ (d6 : Int32), ∃ (d7 : Int32), ∃ (d8 : Int32), ∃ (e5 : Int32), ∃ (e6 : Int32), ∃ (e7 : Int32), ∃ (e8 : Int32), ∃ (P1 : Nat → Int32), ∃ (Q1 : Nat → Int32), va_P (dC, dI) classes ([(oc8 x (.ref sh) (.ref lw) (.ref ro) (.ref bq) (.ref bp) (.ref dq) (.ref dp) (.ref lv) (.ref sl) (nI dn) sd ul1 su1), (oc10 sl mc9 (.ref ea) (nI T)), (oc3 lw (.ref dr) (.ref tg) (.ref wy) (.ref br) (.ref bo) (.ref aa)), (oc6 tg (.ref tx) (.ref ty) (nI nt1) rt1), (oa tx cI 3 TX1), (oa ty cI 3 TY1), (oc6 wy (.ref wx) (.ref wz) (nI nw1) rw1), (oa wx cI 2 WX1), (oa wz cI 2 WY1), (oc6 dr (.ref dx) (.ref dy) (nI (nN (mn f0))) (rgK (kd f0).toInt)), (oa dx cI cd P1), (oa dy cI cd Q1), (oc0 br d5 d6 d7 d8), (oc0 bo e5 e6 e7 e8), (oc7 sh (.ref fa) (nI ft)), (oq fa cF 200 FA)] ++ va_pl L f) t.heap ∧ va_D A ([(oc8 x (.ref sh) (.ref lw) (.ref ro) (.ref bq) (.ref bp) (.ref dq) (.ref dp) (.ref lv) (.ref sl) (nI dn) sd ul1 su1), (oc10 sl mc9 (.ref ea) (nI T)), (oc3 lw (.ref dr) (.ref tg) (.ref wy) (.ref br) (.ref bo) (.ref aa)), (oc6 tg (.ref tx) (.ref ty) (nI nt1) rt1), (oa tx cI 3 TX1), (oa ty cI 3 TY1), (oc6 wy (.ref wx) (.ref wz) (nI nw1) rw1), (oa wx cI 2 WX1), (oa wz cI 2 WY1), (oc6 dr (.ref dx) (.ref dy) (nI (nN (mn f0))) (rgK (kd f0).toInt)), (oa dx cI cd P1), (oa dy cI cd Q1), (oc0 br d5 d6 d7 d8), (oc0 bo e5 e6 e7 e8), (oc7 sh (.ref fa) (nI ft)), (oq fa cF 200 FA)] ++ va_pl L f)) A) ([.ref x, .int (nI f0), .int (nI kk), .int sx, .int sy, .int (nI rr)] : List Value).toArray s 0 0 A := ⟨_, rfl⟩
  rw [← hQ9]
  have hl := lv_entry ([.ref x, .int (nI f0), .int (nI kk), .int sx, .int sy, .int (nI rr)]) (n := 8) (Nat.le_of_ble_eq_true rfl)
  rw [lg_entry_eq]
  generalize (lg_sl ([.ref x, .int (nI f0), .int (nI kk), .int sx, .int sy, .int (nI rr)]) ++ List.replicate (8 - (lg_sl ([.ref x, .int (nI f0), .int (nI kk), .int sx, .int sy, .int (nI rr)])).length) Slot.unset).toArray = ls at hl ⊢
  have hl : lv_has ls 8 [(0, .ref x), (1, .int (nI f0)), (2, .int (nI kk)), (3, .int sx), (4, .int sy), (5, .int (nI rr))] := hl
  obtain ⟨own, fe, cl, la, sp, SA, hG9, hH9, hft9⟩ := hB
  obtain ⟨hG, hM, hdT, hT5⟩ := M_0 hG9 hH9 hft9
  have h200 : ft ≤ 200 := hG.2.2.2.2.2.1.2.2.2.2.2
  have hFA9 := hG.2.2.2.2.2.2
  obtain ⟨lo5, lx5, ly5, ln5, LX5, LY5, we5, r5, rx5, ry5, cap5, X5, Y5, hc5⟩ := sh_fc hG.1 hG.2.1 (Nat.le_refl _) hf0 htn
  have hc5 := fc_0 hc5
  have hb5 := hc5.2.2.1
  have hb6 := hc5.2.1
  have hlv : lvF ft st tn f0 := ⟨hf0, hst, htn⟩
  have hwf0 := hwf f0 hlv
  have hw1 := hwf0.2.1
  have hkn0 := hkn f0 hlv
  have hX5 := hc5.2.2.2.2.1
  have hkk9 : (nI kk).toInt = ((kk : Nat) : Int) := nI_toInt (by omega)
  have hrr9 : (nI rr).toInt = ((rr : Nat) : Int) := nI_toInt (by omega)
  have e_m200 : (-200 : Int32).toInt = -200 := (by decide)
  have e_200 : (200 : Int32).toInt = 200 := (by decide)
  have e_0 : (0 : Int32).toInt = 0 := (by decide)
  have e_20 : (20 : Int32).toInt = 20 := (by decide)
  have hc9_1 : inPl L f [(oc1 (fe f0) (rk f0) (wd f0) (tw f0) (pa f0) (pb f0) (.ref lo5) (.ref (la dn f0)) .null), (oc4 (la dn f0) (kd f0) (st f0) (.ref r5) (gb f0) (it f0) (nI we5)), (oc6 r5 (.ref rx5) (.ref ry5) (nI (nN (mn f0))) (rgK (kd f0).toInt)), (oa rx5 cI cap5 X5), (oa ry5 cI cap5 Y5), (oc6 lo5 (.ref lx5) (.ref ly5) (nI ln5) 0), (oa lx5 cI (cl f0) LX5), (oa ly5 cI (cl f0) LY5)] := ⟨ce_pl hc5.1.1, ce_pl hc5.1.2.1, ce_pl hc5.1.2.2.1.1, ce_pl hc5.1.2.2.1.2.1, ce_pl hc5.1.2.2.1.2.2.1, ce_pl hc5.1.2.2.2.1, ce_pl hc5.1.2.2.2.2.1, ce_pl hc5.1.2.2.2.2.2.1, trivial⟩
  have hD0_1 := hD
  obtain ⟨hP, hD⟩ := pl_out hP hD [(oc1 (fe f0) (rk f0) (wd f0) (tw f0) (pa f0) (pb f0) (.ref lo5) (.ref (la dn f0)) .null), (oc4 (la dn f0) (kd f0) (st f0) (.ref r5) (gb f0) (it f0) (nI we5)), (oc6 r5 (.ref rx5) (.ref ry5) (nI (nN (mn f0))) (rgK (kd f0).toInt)), (oa rx5 cI cap5 X5), (oa ry5 cI cap5 Y5), (oc6 lo5 (.ref lx5) (.ref ly5) (nI ln5) 0), (oa lx5 cI (cl f0) LX5), (oa ly5 cI (cl f0) LY5)] hc9_1 (pw8 hc5 (by omega))
  generalize hT_1 : outPl L [(oc1 (fe f0) (rk f0) (wd f0) (tw f0) (pa f0) (pb f0) (.ref lo5) (.ref (la dn f0)) .null), (oc4 (la dn f0) (kd f0) (st f0) (.ref r5) (gb f0) (it f0) (nI we5)), (oc6 r5 (.ref rx5) (.ref ry5) (nI (nN (mn f0))) (rgK (kd f0).toInt)), (oa rx5 cI cap5 X5), (oa ry5 cI cap5 Y5), (oc6 lo5 (.ref lx5) (.ref ly5) (nI ln5) 0), (oa lx5 cI (cl f0) LX5), (oa ly5 cI (cl f0) LY5)] = T_1 at hP hD
  obtain ⟨hP, hD⟩ : zPD (dC, dI) classes A ([(oc8 x (.ref sh) (.ref lw) (.ref ro) (.ref bq) (.ref bp) (.ref dq) (.ref dp) (.ref lv) (.ref sl) (nI dn) sd ul su), (oc10 sl mc9 (.ref ea) (nI T)), (oc3 lw (.ref dr) (.ref tg) (.ref wy) (.ref br) (.ref bo) (.ref aa)), (oc6 tg (.ref tx) (.ref ty) (nI nt) rt), (oa tx cI 3 TX), (oa ty cI 3 TY), (oc6 wy (.ref wx) (.ref wz) (nI nw) rw), (oa wx cI 2 WX), (oa wz cI 2 WY), (oc6 dr (.ref dx) (.ref dy) (nI nd) rd), (oa dx cI cd P), (oa dy cI cd Q), (oc0 br b1 b2 b3 b4), (oc0 bo b5 b6 b7 b8), (oc7 sh (.ref fa) (nI ft)), (oq fa cF 200 FA), (oc1 (fe f0) (rk f0) (wd f0) (tw f0) (pa f0) (pb f0) (.ref lo5) (.ref (la dn f0)) .null), (oc4 (la dn f0) (kd f0) (st f0) (.ref r5) (gb f0) (it f0) (nI we5)), (oc6 r5 (.ref rx5) (.ref ry5) (nI (nN (mn f0))) (rgK (kd f0).toInt)), (oa rx5 cI cap5 X5), (oa ry5 cI cap5 Y5), (oc6 lo5 (.ref lx5) (.ref ly5) (nI ln5) 0), (oa lx5 cI (cl f0) LX5), (oa ly5 cI (cl f0) LY5)] ++ va_pl T_1 f) s.heap := ⟨hP, hD⟩
  refine lv_aload_n hx hb dX10_shift_0 rfl (lv_at hl 0 rfl) ?_
  refine va_get (D := (dC, dI)) (ci := 8) (v := .ref sh) (C := RX10) (T := TX10) (N := 13) hx hb hts inX10 hown hK hP 0 rfl rfl 0 (Nat.le_of_ble_eq_true rfl) (hts _ mw_309) (fun _ h9 => h9) rfl dX10_shift_1 ?_
  refine lv_iload_n hx hb dX10_shift_4 rfl (lv_at hl 1 rfl) ?_
  obtain ⟨hPc, hDc, hFc⟩ := zc_sub (wc := [(oc7 sh (.ref fa) (nI ft)), (oq fa cF 200 FA)]) hP hD hS hA [14, 15] rfl rfl
  refine zcall (st1 := [.ref (fe f0)]) (va_runV (As := [.int (nI f0)]) (rest := []) ⟨hx, hb, hml, hown, hts⟩ (k_Sheet_find l dC dI cI cZ cF s.heap.size sh fa ft FA f0 (fe f0) (by first | with_reducible assumption | omega) (by first | with_reducible assumption | omega) (hFA9 f0 (by first | with_reducible assumption | omega))) (csV_94 hts rfl rfl ⟨Nat.le_of_ble_eq_true rfl, Nat.le_of_ble_eq_true rfl⟩) (zPV2 (q0 := 0) (ci := 7) hPc hDc hK3 hXN rfl rfl) rfl rfl hl.1 rfl (lv_room (Nat.le_of_ble_eq_true rfl)) dX10_shift_5 ⟨Nat.le_of_ble_eq_true rfl, Nat.le_of_ble_eq_true rfl⟩) hS hFc hFc rfl (fun t H locs ht hB hk1 hS => ?_)
  obtain ⟨hP1, hD1⟩ := hB
  rw [ht] at hP1
  obtain ⟨hP, hD⟩ := zkQ (W2 := [(oc8 x (.ref sh) (.ref lw) (.ref ro) (.ref bq) (.ref bp) (.ref dq) (.ref dp) (.ref lv) (.ref sl) (nI dn) sd ul su), (oc10 sl mc9 (.ref ea) (nI T)), (oc3 lw (.ref dr) (.ref tg) (.ref wy) (.ref br) (.ref bo) (.ref aa)), (oc6 tg (.ref tx) (.ref ty) (nI nt) rt), (oa tx cI 3 TX), (oa ty cI 3 TY), (oc6 wy (.ref wx) (.ref wz) (nI nw) rw), (oa wx cI 2 WX), (oa wz cI 2 WY), (oc6 dr (.ref dx) (.ref dy) (nI nd) rd), (oa dx cI cd P), (oa dy cI cd Q), (oc0 br b1 b2 b3 b4), (oc0 bo b5 b6 b7 b8), (oc7 sh (.ref fa) (nI ft)), (oq fa cF 200 FA), (oc1 (fe f0) (rk f0) (wd f0) (tw f0) (pa f0) (pb f0) (.ref lo5) (.ref (la dn f0)) .null), (oc4 (la dn f0) (kd f0) (st f0) (.ref r5) (gb f0) (it f0) (nI we5)), (oc6 r5 (.ref rx5) (.ref ry5) (nI (nN (mn f0))) (rgK (kd f0).toInt)), (oa rx5 cI cap5 X5), (oa ry5 cI cap5 Y5), (oc6 lo5 (.ref lx5) (.ref ly5) (nI ln5) 0), (oa lx5 cI (cl f0) LX5), (oa ly5 cI (cl f0) LY5)]) hP hD [14, 15] [0, 1, 2, 3, 4, 5, 6, 7, 8, 9, 10, 11, 12, 13, 16, 17, 18, 19, 20, 21, 22, 23] [0, 1, 2, 3, 4, 5, 6, 7, 8, 9, 10, 11, 12, 13, 16, 17, 18, 19, 20, 21, 22, 23] [14, 15] [0, 1, 2, 3, 4, 5, 6, 7, 8, 9, 10, 11, 12, 13, 22, 23, 14, 15, 16, 17, 18, 19, 20, 21] 24 rfl rfl rfl rfl rfl rfl rfl rfl rfl hk1 hFc hP1 hD1
  clear hk1 hPc hDc hFc hP1 hD1 ht
  refine lv_astore (lv' := [(6, .ref (fe f0)), (0, .ref x), (1, .int (nI f0)), (2, .int (nI kk)), (3, .int sx), (4, .int sy), (5, .int (nI rr))]) hx hb dX10_shift_8 hl (Nat.le_of_ble_eq_true rfl) rfl (fun ls hl => ?_)
  refine lv_aload hx hb dX10_shift_10 (lv_at hl 0 rfl) ?_
  refine lv_ifnull hx hb dX10_shift_12 ?_
  refine lv_aload hx hb dX10_shift_15 (lv_at hl 0 rfl) ?_
  refine lv_iload_n hx hb dX10_shift_17 rfl (lv_at hl 3 rfl) ?_
  obtain ⟨hPc, hDc, hFc⟩ := zc_sub (wc := [(oc1 (fe f0) (rk f0) (wd f0) (tw f0) (pa f0) (pb f0) (.ref lo5) (.ref (la dn f0)) .null), (oc4 (la dn f0) (kd f0) (st f0) (.ref r5) (gb f0) (it f0) (nI we5)), (oc6 r5 (.ref rx5) (.ref ry5) (nI (nN (mn f0))) (rgK (kd f0).toInt))]) hP hD hS hA [16, 17, 18] rfl rfl
  refine zcall (st1 := [.int (pI (0 ≤ (nI kk).toInt ∧ (nI kk).toInt < (((nN (mn f0)) : Nat) : Int)))]) (va_runV (As := [.int (nI kk)]) (rest := []) ⟨hx, hb, hml, hown, hts⟩ (k_Feature_mayHaveCorner_r l dC dI cI cZ cF H.size (fe f0) lo5 (rk f0) (wd f0) (tw f0) (pa f0) (pb f0) (la dn f0) (kd f0) (st f0) (gb f0) (it f0) (nI we5) r5 rx5 ry5 (nN (mn f0)) (nI kk) (rgK (kd f0).toInt) (by first | with_reducible assumption | omega)) (csV_119 hts rfl rfl ⟨Nat.le_of_ble_eq_true rfl, Nat.le_of_ble_eq_true rfl⟩) (zPV2 (q0 := 0) (ci := 1) hPc hDc hK3 hXN rfl rfl) rfl rfl hl.1 rfl (lv_room (Nat.le_of_ble_eq_true rfl)) dX10_shift_18 ⟨Nat.le_of_ble_eq_true rfl, Nat.le_of_ble_eq_true rfl⟩) hS hFc hFc rfl (fun t H locs ht hB hk1 hS => ?_)
  obtain ⟨hP1, hD1⟩ := hB
  rw [ht] at hP1
  obtain ⟨hP, hD⟩ := zkQ (W2 := [(oc8 x (.ref sh) (.ref lw) (.ref ro) (.ref bq) (.ref bp) (.ref dq) (.ref dp) (.ref lv) (.ref sl) (nI dn) sd ul su), (oc10 sl mc9 (.ref ea) (nI T)), (oc3 lw (.ref dr) (.ref tg) (.ref wy) (.ref br) (.ref bo) (.ref aa)), (oc6 tg (.ref tx) (.ref ty) (nI nt) rt), (oa tx cI 3 TX), (oa ty cI 3 TY), (oc6 wy (.ref wx) (.ref wz) (nI nw) rw), (oa wx cI 2 WX), (oa wz cI 2 WY), (oc6 dr (.ref dx) (.ref dy) (nI nd) rd), (oa dx cI cd P), (oa dy cI cd Q), (oc0 br b1 b2 b3 b4), (oc0 bo b5 b6 b7 b8), (oc7 sh (.ref fa) (nI ft)), (oq fa cF 200 FA), (oc1 (fe f0) (rk f0) (wd f0) (tw f0) (pa f0) (pb f0) (.ref lo5) (.ref (la dn f0)) .null), (oc4 (la dn f0) (kd f0) (st f0) (.ref r5) (gb f0) (it f0) (nI we5)), (oc6 r5 (.ref rx5) (.ref ry5) (nI (nN (mn f0))) (rgK (kd f0).toInt)), (oa rx5 cI cap5 X5), (oa ry5 cI cap5 Y5), (oc6 lo5 (.ref lx5) (.ref ly5) (nI ln5) 0), (oa lx5 cI (cl f0) LX5), (oa ly5 cI (cl f0) LY5)]) hP hD [16, 17, 18] [0, 1, 2, 3, 4, 5, 6, 7, 8, 9, 10, 11, 12, 13, 14, 15, 19, 20, 21, 22, 23] [0, 1, 2, 3, 4, 5, 6, 7, 8, 9, 10, 11, 12, 13, 14, 15, 19, 20, 21, 22, 23] [16, 17, 18] [0, 1, 2, 3, 4, 5, 6, 7, 8, 9, 10, 11, 12, 13, 14, 15, 21, 22, 23, 16, 17, 18, 19, 20] 24 rfl rfl rfl rfl rfl rfl rfl rfl rfl hk1 hFc hP1 hD1
  clear hk1 hPc hDc hFc hP1 hD1 ht
  refine lv_if_ne (tgt := 30) hx hb dX10_shift_21 rfl (fun c_1 => ?_) (fun c_1 => ?_)
  · have c_1 : 0 ≤ (nI kk).toInt ∧ (nI kk).toInt < (((nN (mn f0)) : Nat) : Int) := zp_1 c_1
    refine lv_aload hx hb dX10_shift_30 (lv_at hl 0 rfl) ?_
    refine va_get (D := (dC, dI)) (ci := 1) (v := .ref (la dn f0)) (C := RX2) (T := TX2) (N := 8) hx hb hts inX2 hown hK hP 16 rfl rfl 6 (Nat.le_of_ble_eq_true rfl) (hts _ mw_433) (fun _ h9 => h9) rfl dX10_shift_32 ?_
    refine va_get (D := (dC, dI)) (ci := 4) (v := .int (st f0)) (C := RX5) (T := TX5) (N := 6) hx hb hts inX5 hown hK hP 17 rfl rfl 1 (Nat.le_of_ble_eq_true rfl) (hts _ mw_385) (fun _ h9 => h9) rfl dX10_shift_35 ?_
    refine lv_iconst (v := 1) hx hb dX10_shift_38 rfl ?_
    refine lv_icmp_eq (tgt := 48) hx hb dX10_shift_39 rfl (fun c_2 => ?_) (fun c_2 => ?_)
    · have c_2 : (st f0).toInt = 1 := zc_eq rfl rfl c_2
      refine lv_iload_n hx hb dX10_shift_48 rfl (lv_at hl 4 rfl) ?_
      refine lv_sipush (v := (-200)) hx hb dX10_shift_49 rfl ?_
      refine lv_sipush (v := 200) hx hb dX10_shift_52 rfl ?_
      obtain ⟨hPc, hDc, hFc⟩ := zc_sub (wc := []) hP hD hS hA [] rfl rfl
      refine zcall (st1 := [.int (pI ((-200 : Int32).toInt ≤ sx.toInt ∧ sx.toInt ≤ (200 : Int32).toInt))]) (va_runS (As := [.int sx, .int (-200), .int 200]) (rest := []) ⟨hx, hb, hml, hown, hts⟩ (k_isWithin l dC dI cI cZ cF H.size sx (-200) 200 ) (csS_14 hts rfl rfl ⟨Nat.le_of_ble_eq_true rfl, Nat.le_of_ble_eq_true rfl⟩) (zPS2 hPc hDc hK3 hXN) rfl rfl hl.1 rfl (lv_room (Nat.le_of_ble_eq_true rfl)) dX10_shift_55 ⟨Nat.le_of_ble_eq_true rfl, Nat.le_of_ble_eq_true rfl⟩) hS hFc hFc rfl (fun t H locs ht hB hk1 hS => ?_)
      obtain ⟨hP1, hD1⟩ := hB
      rw [ht] at hP1
      obtain ⟨hP, hD⟩ := zkQ (W2 := [(oc8 x (.ref sh) (.ref lw) (.ref ro) (.ref bq) (.ref bp) (.ref dq) (.ref dp) (.ref lv) (.ref sl) (nI dn) sd ul su), (oc10 sl mc9 (.ref ea) (nI T)), (oc3 lw (.ref dr) (.ref tg) (.ref wy) (.ref br) (.ref bo) (.ref aa)), (oc6 tg (.ref tx) (.ref ty) (nI nt) rt), (oa tx cI 3 TX), (oa ty cI 3 TY), (oc6 wy (.ref wx) (.ref wz) (nI nw) rw), (oa wx cI 2 WX), (oa wz cI 2 WY), (oc6 dr (.ref dx) (.ref dy) (nI nd) rd), (oa dx cI cd P), (oa dy cI cd Q), (oc0 br b1 b2 b3 b4), (oc0 bo b5 b6 b7 b8), (oc7 sh (.ref fa) (nI ft)), (oq fa cF 200 FA), (oc1 (fe f0) (rk f0) (wd f0) (tw f0) (pa f0) (pb f0) (.ref lo5) (.ref (la dn f0)) .null), (oc4 (la dn f0) (kd f0) (st f0) (.ref r5) (gb f0) (it f0) (nI we5)), (oc6 r5 (.ref rx5) (.ref ry5) (nI (nN (mn f0))) (rgK (kd f0).toInt)), (oa rx5 cI cap5 X5), (oa ry5 cI cap5 Y5), (oc6 lo5 (.ref lx5) (.ref ly5) (nI ln5) 0), (oa lx5 cI (cl f0) LX5), (oa ly5 cI (cl f0) LY5)]) hP hD [] [0, 1, 2, 3, 4, 5, 6, 7, 8, 9, 10, 11, 12, 13, 14, 15, 16, 17, 18, 19, 20, 21, 22, 23] [0, 1, 2, 3, 4, 5, 6, 7, 8, 9, 10, 11, 12, 13, 14, 15, 16, 17, 18, 19, 20, 21, 22, 23] [] [0, 1, 2, 3, 4, 5, 6, 7, 8, 9, 10, 11, 12, 13, 14, 15, 16, 17, 18, 19, 20, 21, 22, 23] 24 rfl rfl rfl rfl rfl rfl rfl rfl rfl hk1 hFc hP1 hD1
      clear hk1 hPc hDc hFc hP1 hD1 ht
      refine lv_if_eq (tgt := 75) hx hb dX10_shift_58 rfl (fun c_3 => ?_) (fun c_3 => ?_)
      · have c_3 : ¬ ((-200 : Int32).toInt ≤ sx.toInt ∧ sx.toInt ≤ (200 : Int32).toInt) := zp_0 c_3
        exfalso; omega
      · have c_3 : (-200 : Int32).toInt ≤ sx.toInt ∧ sx.toInt ≤ (200 : Int32).toInt := zp_1 c_3
        refine lv_iload hx hb dX10_shift_61 (lv_at hl 5 rfl) ?_
        refine lv_sipush (v := (-200)) hx hb dX10_shift_63 rfl ?_
        refine lv_sipush (v := 200) hx hb dX10_shift_66 rfl ?_
        obtain ⟨hPc, hDc, hFc⟩ := zc_sub (wc := []) hP hD hS hA [] rfl rfl
        refine zcall (st1 := [.int (pI ((-200 : Int32).toInt ≤ sy.toInt ∧ sy.toInt ≤ (200 : Int32).toInt))]) (va_runS (As := [.int sy, .int (-200), .int 200]) (rest := []) ⟨hx, hb, hml, hown, hts⟩ (k_isWithin l dC dI cI cZ cF H.size sy (-200) 200 ) (csS_14 hts rfl rfl ⟨Nat.le_of_ble_eq_true rfl, Nat.le_of_ble_eq_true rfl⟩) (zPS2 hPc hDc hK3 hXN) rfl rfl hl.1 rfl (lv_room (Nat.le_of_ble_eq_true rfl)) dX10_shift_69 ⟨Nat.le_of_ble_eq_true rfl, Nat.le_of_ble_eq_true rfl⟩) hS hFc hFc rfl (fun t H locs ht hB hk1 hS => ?_)
        obtain ⟨hP1, hD1⟩ := hB
        rw [ht] at hP1
        obtain ⟨hP, hD⟩ := zkQ (W2 := [(oc8 x (.ref sh) (.ref lw) (.ref ro) (.ref bq) (.ref bp) (.ref dq) (.ref dp) (.ref lv) (.ref sl) (nI dn) sd ul su), (oc10 sl mc9 (.ref ea) (nI T)), (oc3 lw (.ref dr) (.ref tg) (.ref wy) (.ref br) (.ref bo) (.ref aa)), (oc6 tg (.ref tx) (.ref ty) (nI nt) rt), (oa tx cI 3 TX), (oa ty cI 3 TY), (oc6 wy (.ref wx) (.ref wz) (nI nw) rw), (oa wx cI 2 WX), (oa wz cI 2 WY), (oc6 dr (.ref dx) (.ref dy) (nI nd) rd), (oa dx cI cd P), (oa dy cI cd Q), (oc0 br b1 b2 b3 b4), (oc0 bo b5 b6 b7 b8), (oc7 sh (.ref fa) (nI ft)), (oq fa cF 200 FA), (oc1 (fe f0) (rk f0) (wd f0) (tw f0) (pa f0) (pb f0) (.ref lo5) (.ref (la dn f0)) .null), (oc4 (la dn f0) (kd f0) (st f0) (.ref r5) (gb f0) (it f0) (nI we5)), (oc6 r5 (.ref rx5) (.ref ry5) (nI (nN (mn f0))) (rgK (kd f0).toInt)), (oa rx5 cI cap5 X5), (oa ry5 cI cap5 Y5), (oc6 lo5 (.ref lx5) (.ref ly5) (nI ln5) 0), (oa lx5 cI (cl f0) LX5), (oa ly5 cI (cl f0) LY5)]) hP hD [] [0, 1, 2, 3, 4, 5, 6, 7, 8, 9, 10, 11, 12, 13, 14, 15, 16, 17, 18, 19, 20, 21, 22, 23] [0, 1, 2, 3, 4, 5, 6, 7, 8, 9, 10, 11, 12, 13, 14, 15, 16, 17, 18, 19, 20, 21, 22, 23] [] [0, 1, 2, 3, 4, 5, 6, 7, 8, 9, 10, 11, 12, 13, 14, 15, 16, 17, 18, 19, 20, 21, 22, 23] 24 rfl rfl rfl rfl rfl rfl rfl rfl rfl hk1 hFc hP1 hD1
        clear hk1 hPc hDc hFc hP1 hD1 ht
        refine lv_if_ne (tgt := 81) hx hb dX10_shift_72 rfl (fun c_4 => ?_) (fun c_4 => ?_)
        · have c_4 : (-200 : Int32).toInt ≤ sy.toInt ∧ sy.toInt ≤ (200 : Int32).toInt := zp_1 c_4
          refine lv_iload hx hb dX10_shift_81 (lv_at hl 6 rfl) ?_
          refine lv_iconst (v := 0) hx hb dX10_shift_83 rfl ?_
          refine lv_bipush (v := 20) hx hb dX10_shift_84 rfl ?_
          obtain ⟨hPc, hDc, hFc⟩ := zc_sub (wc := []) hP hD hS hA [] rfl rfl
          refine zcall (st1 := [.int (pI ((0 : Int32).toInt ≤ (nI rr).toInt ∧ (nI rr).toInt ≤ (20 : Int32).toInt))]) (va_runS (As := [.int (nI rr), .int 0, .int 20]) (rest := []) ⟨hx, hb, hml, hown, hts⟩ (k_isWithin l dC dI cI cZ cF H.size (nI rr) 0 20 ) (csS_14 hts rfl rfl ⟨Nat.le_of_ble_eq_true rfl, Nat.le_of_ble_eq_true rfl⟩) (zPS2 hPc hDc hK3 hXN) rfl rfl hl.1 rfl (lv_room (Nat.le_of_ble_eq_true rfl)) dX10_shift_86 ⟨Nat.le_of_ble_eq_true rfl, Nat.le_of_ble_eq_true rfl⟩) hS hFc hFc rfl (fun t H locs ht hB hk1 hS => ?_)
          obtain ⟨hP1, hD1⟩ := hB
          rw [ht] at hP1
          obtain ⟨hP, hD⟩ := zkQ (W2 := [(oc8 x (.ref sh) (.ref lw) (.ref ro) (.ref bq) (.ref bp) (.ref dq) (.ref dp) (.ref lv) (.ref sl) (nI dn) sd ul su), (oc10 sl mc9 (.ref ea) (nI T)), (oc3 lw (.ref dr) (.ref tg) (.ref wy) (.ref br) (.ref bo) (.ref aa)), (oc6 tg (.ref tx) (.ref ty) (nI nt) rt), (oa tx cI 3 TX), (oa ty cI 3 TY), (oc6 wy (.ref wx) (.ref wz) (nI nw) rw), (oa wx cI 2 WX), (oa wz cI 2 WY), (oc6 dr (.ref dx) (.ref dy) (nI nd) rd), (oa dx cI cd P), (oa dy cI cd Q), (oc0 br b1 b2 b3 b4), (oc0 bo b5 b6 b7 b8), (oc7 sh (.ref fa) (nI ft)), (oq fa cF 200 FA), (oc1 (fe f0) (rk f0) (wd f0) (tw f0) (pa f0) (pb f0) (.ref lo5) (.ref (la dn f0)) .null), (oc4 (la dn f0) (kd f0) (st f0) (.ref r5) (gb f0) (it f0) (nI we5)), (oc6 r5 (.ref rx5) (.ref ry5) (nI (nN (mn f0))) (rgK (kd f0).toInt)), (oa rx5 cI cap5 X5), (oa ry5 cI cap5 Y5), (oc6 lo5 (.ref lx5) (.ref ly5) (nI ln5) 0), (oa lx5 cI (cl f0) LX5), (oa ly5 cI (cl f0) LY5)]) hP hD [] [0, 1, 2, 3, 4, 5, 6, 7, 8, 9, 10, 11, 12, 13, 14, 15, 16, 17, 18, 19, 20, 21, 22, 23] [0, 1, 2, 3, 4, 5, 6, 7, 8, 9, 10, 11, 12, 13, 14, 15, 16, 17, 18, 19, 20, 21, 22, 23] [] [0, 1, 2, 3, 4, 5, 6, 7, 8, 9, 10, 11, 12, 13, 14, 15, 16, 17, 18, 19, 20, 21, 22, 23] 24 rfl rfl rfl rfl rfl rfl rfl rfl rfl hk1 hFc hP1 hD1
          clear hk1 hPc hDc hFc hP1 hD1 ht
          refine lv_if_ne (tgt := 98) hx hb dX10_shift_89 rfl (fun c_5 => ?_) (fun c_5 => ?_)
          · have c_5 : (0 : Int32).toInt ≤ (nI rr).toInt ∧ (nI rr).toInt ≤ (20 : Int32).toInt := zp_1 c_5
            refine lv_aload hx hb dX10_shift_98 (lv_at hl 0 rfl) ?_
            refine va_get (D := (dC, dI)) (ci := 1) (v := .ref (la dn f0)) (C := RX2) (T := TX2) (N := 8) hx hb hts inX2 hown hK hP 16 rfl rfl 6 (Nat.le_of_ble_eq_true rfl) (hts _ mw_433) (fun _ h9 => h9) rfl dX10_shift_100 ?_
            refine va_get (D := (dC, dI)) (ci := 4) (v := .ref r5) (C := RX5) (T := TX5) (N := 6) hx hb hts inX5 hown hK hP 17 rfl rfl 2 (Nat.le_of_ble_eq_true rfl) (hts _ mw_391) (fun _ h9 => h9) rfl dX10_shift_103 ?_
            refine lv_astore (lv' := [(7, .ref r5), (6, .ref (fe f0)), (0, .ref x), (1, .int (nI f0)), (2, .int (nI kk)), (3, .int sx), (4, .int sy), (5, .int (nI rr))]) hx hb dX10_shift_106 hl (Nat.le_of_ble_eq_true rfl) rfl (fun ls hl => ?_)
            refine lv_aload hx hb dX10_shift_108 (lv_at hl 0 rfl) ?_
            refine lv_ifnonnull (tgt := 119) hx hb dX10_shift_110 rfl ?_
            refine lv_aload_n hx hb dX10_shift_119 rfl (lv_at hl 2 rfl) ?_
            refine va_get (D := (dC, dI)) (ci := 8) (v := .ref lw) (C := RX10) (T := TX10) (N := 13) hx hb hts inX10 hown hK hP 0 rfl rfl 1 (Nat.le_of_ble_eq_true rfl) (hts _ mw_310) (fun _ h9 => h9) rfl dX10_shift_120 ?_
            refine va_get (D := (dC, dI)) (ci := 3) (v := .ref dr) (C := RX4) (T := TX4) (N := 6) hx hb hts inX4 hown hK hP 2 rfl rfl 0 (Nat.le_of_ble_eq_true rfl) (hts _ mw_220) (fun _ h9 => h9) rfl dX10_shift_123 ?_
            refine lv_aload hx hb dX10_shift_126 (lv_at hl 0 rfl) ?_
            obtain ⟨hPc, hDc, hFc⟩ := zc_sub (wc := [(oc6 dr (.ref dx) (.ref dy) (nI nd) rd), (oa dx cI cd P), (oa dy cI cd Q), (oc6 r5 (.ref rx5) (.ref ry5) (nI (nN (mn f0))) (rgK (kd f0).toInt)), (oa rx5 cI cap5 X5), (oa ry5 cI cap5 Y5)]) hP hD hS hA [9, 10, 11, 18, 19, 20] rfl rfl
            refine zcall (st1 := []) (va_runV (As := [.ref r5]) (rest := []) ⟨hx, hb, hml, hown, hts⟩ (k_Row_copyFrom l dC dI cI cZ cF H.size dr dx dy nd cd P Q rd r5 rx5 ry5 (nN (mn f0)) cap5 X5 Y5 (rgK (kd f0).toInt) (by first | with_reducible assumption | omega) (by first | with_reducible assumption | omega) (by first | with_reducible assumption | omega) (by first | with_reducible assumption | omega) (rgK_01 _)) (csV_120 hts rfl rfl ⟨Nat.le_of_ble_eq_true rfl, Nat.le_of_ble_eq_true rfl⟩) (zPV2 (q0 := 0) (ci := 6) hPc hDc hK3 hXN rfl rfl) rfl rfl hl.1 rfl (lv_room (Nat.le_of_ble_eq_true rfl)) dX10_shift_128 ⟨Nat.le_of_ble_eq_true rfl, Nat.le_of_ble_eq_true rfl⟩) hS hFc hFc rfl (fun t H locs ht hB hk1 hS => ?_)
            obtain ⟨P6, Q6, hcp7, hP1, hD1⟩ := hB
            rw [ht] at hP1
            obtain ⟨hP, hD⟩ := zkQ (W2 := [(oc8 x (.ref sh) (.ref lw) (.ref ro) (.ref bq) (.ref bp) (.ref dq) (.ref dp) (.ref lv) (.ref sl) (nI dn) sd ul su), (oc10 sl mc9 (.ref ea) (nI T)), (oc3 lw (.ref dr) (.ref tg) (.ref wy) (.ref br) (.ref bo) (.ref aa)), (oc6 tg (.ref tx) (.ref ty) (nI nt) rt), (oa tx cI 3 TX), (oa ty cI 3 TY), (oc6 wy (.ref wx) (.ref wz) (nI nw) rw), (oa wx cI 2 WX), (oa wz cI 2 WY), (oc6 dr (.ref dx) (.ref dy) (nI (nN (mn f0))) (rgK (kd f0).toInt)), (oa dx cI cd P6), (oa dy cI cd Q6), (oc0 br b1 b2 b3 b4), (oc0 bo b5 b6 b7 b8), (oc7 sh (.ref fa) (nI ft)), (oq fa cF 200 FA), (oc1 (fe f0) (rk f0) (wd f0) (tw f0) (pa f0) (pb f0) (.ref lo5) (.ref (la dn f0)) .null), (oc4 (la dn f0) (kd f0) (st f0) (.ref r5) (gb f0) (it f0) (nI we5)), (oc6 r5 (.ref rx5) (.ref ry5) (nI (nN (mn f0))) (rgK (kd f0).toInt)), (oa rx5 cI cap5 X5), (oa ry5 cI cap5 Y5), (oc6 lo5 (.ref lx5) (.ref ly5) (nI ln5) 0), (oa lx5 cI (cl f0) LX5), (oa ly5 cI (cl f0) LY5)]) hP hD [9, 10, 11, 18, 19, 20] [0, 1, 2, 3, 4, 5, 6, 7, 8, 12, 13, 14, 15, 16, 17, 21, 22, 23] [0, 1, 2, 3, 4, 5, 6, 7, 8, 12, 13, 14, 15, 16, 17, 21, 22, 23] [9, 10, 11, 18, 19, 20] [0, 1, 2, 3, 4, 5, 6, 7, 8, 18, 19, 20, 9, 10, 11, 12, 13, 14, 21, 22, 23, 15, 16, 17] 24 rfl rfl rfl rfl rfl rfl rfl rfl rfl hk1 hFc hP1 hD1
            clear hk1 hPc hDc hFc hP1 hD1 ht
            refine lv_aload hx hb dX10_shift_131 (lv_at hl 1 rfl) ?_
            obtain ⟨hPc, hDc, hFc⟩ := zc_sub (wc := [(oc1 (fe f0) (rk f0) (wd f0) (tw f0) (pa f0) (pb f0) (.ref lo5) (.ref (la dn f0)) .null), (oc4 (la dn f0) (kd f0) (st f0) (.ref r5) (gb f0) (it f0) (nI we5))]) hP hD hS hA [16, 17] rfl rfl
            refine zcall (st1 := [.int (pI (1 ≤ (kd f0).toInt ∧ (kd f0).toInt ≤ 5))]) (va_runV (As := []) (rest := []) ⟨hx, hb, hml, hown, hts⟩ (k_Feature_bends_r l dC dI cI cZ cF H.size (fe f0) lo5 (rk f0) (wd f0) (tw f0) (pa f0) (pb f0) (la dn f0) (kd f0) (st f0) (gb f0) (it f0) (nI we5) r5 ) (csV_97 hts rfl rfl ⟨Nat.le_of_ble_eq_true rfl, Nat.le_of_ble_eq_true rfl⟩) (zPV2 (q0 := 0) (ci := 1) hPc hDc hK3 hXN rfl rfl) rfl rfl hl.1 rfl (lv_room (Nat.le_of_ble_eq_true rfl)) dX10_shift_133 ⟨Nat.le_of_ble_eq_true rfl, Nat.le_of_ble_eq_true rfl⟩) hS hFc hFc rfl (fun t H locs ht hB hk1 hS => ?_)
            obtain ⟨hP1, hD1⟩ := hB
            rw [ht] at hP1
            obtain ⟨hP, hD⟩ := zkQ (W2 := [(oc8 x (.ref sh) (.ref lw) (.ref ro) (.ref bq) (.ref bp) (.ref dq) (.ref dp) (.ref lv) (.ref sl) (nI dn) sd ul su), (oc10 sl mc9 (.ref ea) (nI T)), (oc3 lw (.ref dr) (.ref tg) (.ref wy) (.ref br) (.ref bo) (.ref aa)), (oc6 tg (.ref tx) (.ref ty) (nI nt) rt), (oa tx cI 3 TX), (oa ty cI 3 TY), (oc6 wy (.ref wx) (.ref wz) (nI nw) rw), (oa wx cI 2 WX), (oa wz cI 2 WY), (oc6 dr (.ref dx) (.ref dy) (nI (nN (mn f0))) (rgK (kd f0).toInt)), (oa dx cI cd P6), (oa dy cI cd Q6), (oc0 br b1 b2 b3 b4), (oc0 bo b5 b6 b7 b8), (oc7 sh (.ref fa) (nI ft)), (oq fa cF 200 FA), (oc1 (fe f0) (rk f0) (wd f0) (tw f0) (pa f0) (pb f0) (.ref lo5) (.ref (la dn f0)) .null), (oc4 (la dn f0) (kd f0) (st f0) (.ref r5) (gb f0) (it f0) (nI we5)), (oc6 r5 (.ref rx5) (.ref ry5) (nI (nN (mn f0))) (rgK (kd f0).toInt)), (oa rx5 cI cap5 X5), (oa ry5 cI cap5 Y5), (oc6 lo5 (.ref lx5) (.ref ly5) (nI ln5) 0), (oa lx5 cI (cl f0) LX5), (oa ly5 cI (cl f0) LY5)]) hP hD [16, 17] [0, 1, 2, 3, 4, 5, 6, 7, 8, 9, 10, 11, 12, 13, 14, 15, 18, 19, 20, 21, 22, 23] [0, 1, 2, 3, 4, 5, 6, 7, 8, 9, 10, 11, 12, 13, 14, 15, 18, 19, 20, 21, 22, 23] [16, 17] [0, 1, 2, 3, 4, 5, 6, 7, 8, 9, 10, 11, 12, 13, 14, 15, 22, 23, 16, 17, 18, 19, 20, 21] 24 rfl rfl rfl rfl rfl rfl rfl rfl rfl hk1 hFc hP1 hD1
            clear hk1 hPc hDc hFc hP1 hD1 ht
            refine lv_if_eq (tgt := 158) hx hb dX10_shift_136 rfl (fun c_6 => ?_) (fun c_6 => ?_)
            · have c_6 : ¬ (1 ≤ (kd f0).toInt ∧ (kd f0).toInt ≤ 5) := zp_0 c_6
              exfalso; exact absurd hkd (by first | with_reducible assumption | assumption)
            · have c_6 : 1 ≤ (kd f0).toInt ∧ (kd f0).toInt ≤ 5 := zp_1 c_6
              refine lv_aload_n hx hb dX10_shift_139 rfl (lv_at hl 2 rfl) ?_
              refine va_get (D := (dC, dI)) (ci := 8) (v := .ref lw) (C := RX10) (T := TX10) (N := 13) hx hb hts inX10 hown hK hP 0 rfl rfl 1 (Nat.le_of_ble_eq_true rfl) (hts _ mw_310) (fun _ h9 => h9) rfl dX10_shift_140 ?_
              refine va_get (D := (dC, dI)) (ci := 3) (v := .ref dr) (C := RX4) (T := TX4) (N := 6) hx hb hts inX4 hown hK hP 2 rfl rfl 0 (Nat.le_of_ble_eq_true rfl) (hts _ mw_220) (fun _ h9 => h9) rfl dX10_shift_143 ?_
              refine lv_iload_n hx hb dX10_shift_146 rfl (lv_at hl 4 rfl) ?_
              refine lv_iload_n hx hb dX10_shift_147 rfl (lv_at hl 5 rfl) ?_
              refine lv_iload hx hb dX10_shift_148 (lv_at hl 6 rfl) ?_
              refine lv_iload hx hb dX10_shift_150 (lv_at hl 7 rfl) ?_
              obtain ⟨hPc, hDc, hFc⟩ := zc_sub (wc := [(oc6 dr (.ref dx) (.ref dy) (nI (nN (mn f0))) (rgK (kd f0).toInt)), (oa dx cI cd P6), (oa dy cI cd Q6)]) hP hD hS hA [9, 10, 11] rfl rfl
              refine zcall (st1 := []) (va_runV (As := [.int (nI kk), .int sx, .int sy, .int (nI rr)]) (rest := []) ⟨hx, hb, hml, hown, hts⟩ (k_Row_pull l dC dI cI cZ cF H.size dr dx dy (nN (mn f0)) cd P6 Q6 (rgK (kd f0).toInt) kk rr sx sy ((kd f0).toInt) (by first | with_reducible assumption | omega) (by first | with_reducible assumption | omega) (by first | with_reducible assumption | omega) (by first | with_reducible assumption | omega) (by first | with_reducible assumption | omega) (rgK_0 _)) (csV_121 hts rfl rfl ⟨Nat.le_of_ble_eq_true rfl, Nat.le_of_ble_eq_true rfl⟩) (zPV2 (q0 := 0) (ci := 6) hPc hDc hK3 hXN rfl rfl) rfl rfl hl.1 rfl (lv_room (Nat.le_of_ble_eq_true rfl)) dX10_shift_152 ⟨Nat.le_of_ble_eq_true rfl, Nat.le_of_ble_eq_true rfl⟩) hS hFc hFc rfl (fun t H locs ht hB hk1 hS => ?_)
              obtain ⟨P7, Q7, hall7, hP1, hD1⟩ := hB
              rw [ht] at hP1
              obtain ⟨hP, hD⟩ := zkQ (W2 := [(oc8 x (.ref sh) (.ref lw) (.ref ro) (.ref bq) (.ref bp) (.ref dq) (.ref dp) (.ref lv) (.ref sl) (nI dn) sd ul su), (oc10 sl mc9 (.ref ea) (nI T)), (oc3 lw (.ref dr) (.ref tg) (.ref wy) (.ref br) (.ref bo) (.ref aa)), (oc6 tg (.ref tx) (.ref ty) (nI nt) rt), (oa tx cI 3 TX), (oa ty cI 3 TY), (oc6 wy (.ref wx) (.ref wz) (nI nw) rw), (oa wx cI 2 WX), (oa wz cI 2 WY), (oc6 dr (.ref dx) (.ref dy) (nI (nN (mn f0))) (rgK (kd f0).toInt)), (oa dx cI cd P7), (oa dy cI cd Q7), (oc0 br b1 b2 b3 b4), (oc0 bo b5 b6 b7 b8), (oc7 sh (.ref fa) (nI ft)), (oq fa cF 200 FA), (oc1 (fe f0) (rk f0) (wd f0) (tw f0) (pa f0) (pb f0) (.ref lo5) (.ref (la dn f0)) .null), (oc4 (la dn f0) (kd f0) (st f0) (.ref r5) (gb f0) (it f0) (nI we5)), (oc6 r5 (.ref rx5) (.ref ry5) (nI (nN (mn f0))) (rgK (kd f0).toInt)), (oa rx5 cI cap5 X5), (oa ry5 cI cap5 Y5), (oc6 lo5 (.ref lx5) (.ref ly5) (nI ln5) 0), (oa lx5 cI (cl f0) LX5), (oa ly5 cI (cl f0) LY5)]) hP hD [9, 10, 11] [0, 1, 2, 3, 4, 5, 6, 7, 8, 12, 13, 14, 15, 16, 17, 18, 19, 20, 21, 22, 23] [0, 1, 2, 3, 4, 5, 6, 7, 8, 12, 13, 14, 15, 16, 17, 18, 19, 20, 21, 22, 23] [9, 10, 11] [0, 1, 2, 3, 4, 5, 6, 7, 8, 21, 22, 23, 9, 10, 11, 12, 13, 14, 15, 16, 17, 18, 19, 20] 24 rfl rfl rfl rfl rfl rfl rfl rfl rfl hk1 hFc hP1 hD1
              clear hk1 hPc hDc hFc hP1 hD1 ht
              refine lv_goto (tgt := 171) hx hb dX10_shift_155 rfl ?_
              have hv7 : ∀ k, k < nN (mn f0) → P7 k = (fun i => shV (kd f0).toInt (nN (mn f0)) kk sx rr (cF40 cx f0) i) k ∧ Q7 k = (fun i => shV (kd f0).toInt (nN (mn f0)) kk sy rr (cF40 cy f0) i) k := fun k hk => ⟨sh_hv hk (fun j hj => (hcp7 j hj).1.trans (hX5 j hj).1) (hall7 k hk).1, sh_hv hk (fun j hj => (hcp7 j hj).2.trans (hX5 j hj).2) (hall7 k hk).2⟩
              refine lv_aload_n hx hb dX10_shift_171 rfl (lv_at hl 2 rfl) ?_
              refine lv_aload hx hb dX10_shift_172 (lv_at hl 1 rfl) ?_
              refine lv_iload_n hx hb dX10_shift_174 rfl (lv_at hl 3 rfl) ?_
              refine lv_iconst (v := 3) hx hb dX10_shift_175 rfl ?_
              obtain ⟨hPc, hDc, hFc⟩ := zc_part (cx := [(oc8 x (.ref sh) (.ref lw) (.ref ro) (.ref bq) (.ref bp) (.ref dq) (.ref dp) (.ref lv) (.ref sl) (nI dn) sd ul su), (oc10 sl mc9 (.ref ea) (nI T)), (oc3 lw (.ref dr) (.ref tg) (.ref wy) (.ref br) (.ref bo) (.ref aa)), (oc6 tg (.ref tx) (.ref ty) (nI nt) rt), (oa tx cI 3 TX), (oa ty cI 3 TY), (oc6 wy (.ref wx) (.ref wz) (nI nw) rw), (oa wx cI 2 WX), (oa wz cI 2 WY), (oc6 dr (.ref dx) (.ref dy) (nI (nN (mn f0))) (rgK (kd f0).toInt)), (oa dx cI cd P7), (oa dy cI cd Q7), (oc0 br b1 b2 b3 b4), (oc0 bo b5 b6 b7 b8), (oc1 (fe f0) (rk f0) (wd f0) (tw f0) (pa f0) (pb f0) (.ref lo5) (.ref (la dn f0)) .null), (oc4 (la dn f0) (kd f0) (st f0) (.ref r5) (gb f0) (it f0) (nI we5)), (oc6 r5 (.ref rx5) (.ref ry5) (nI (nN (mn f0))) (rgK (kd f0).toInt)), (oa rx5 cI cap5 X5), (oa ry5 cI cap5 Y5), (oc6 lo5 (.ref lx5) (.ref ly5) (nI ln5) 0), (oa lx5 cI (cl f0) LX5), (oa ly5 cI (cl f0) LY5), (oc7 sh (.ref fa) (nI ft)), (oq fa cF 200 FA)]) hP hD hS hA [0, 1, 2, 3, 4, 5, 6, 7, 8, 9, 10, 11, 12, 13, 16, 17, 18, 19, 20, 21, 22, 23, 14, 15] rfl rfl
              refine zcall (st1 := [.int 0]) (va_runV (As := [.ref (fe f0), .int (nI f0), .int 3]) (rest := []) ⟨hx, hb, hml, hown, hts⟩ (k_moveTo_m_r l dC dI cI cZ cF H.size cO e0 mi x sh lw ro bq bp dq dp lv sl sd ul su ea mc9 fa FA bs dn T ft FT V VX VY tn rk wd tw pa pb wh of9 we kd st gb it mn cx cy T_1 f L f0 own fe cl la sp SA lo5 lx5 ly5 ln5 LX5 LY5 we5 r5 rx5 ry5 cap5 X5 Y5 dr tg wy br bo aa tx ty nt TX TY rt wx wz nw WX WY rw dx dy cd P7 Q7 b1 b2 b3 b4 b5 b6 b7 b8 3 (hG9) (hH9) (hft9) (hc5) (hT_1) (by first | with_reducible assumption | assumption) (by first | with_reducible assumption | assumption) (hst) (hwf) (hkn) (by first | with_reducible assumption | omega) (by have := hkn0; have := hsm.1; omega) (fun h => hbad ⟨((alM_cx hw1.1 hX5).trans (alM_lw (VX := fun i => shV (kd f0).toInt (nN (mn f0)) kk sx rr (cF40 cx f0) i) (VY := fun i => shV (kd f0).toInt (nN (mn f0)) kk sy rr (cF40 cy f0) i) (by first | with_reducible assumption | omega) (by first | with_reducible assumption | omega) (hsm.2 (by first | with_reducible assumption | omega)).1 hv7 hwf hkn)).mp h.1, Classical.byContradiction fun g => h.2 ((mv_alk hv7 hX5).mpr g)⟩)) (csV_117 hts rfl rfl ⟨Nat.le_of_ble_eq_true rfl, Nat.le_of_ble_eq_true rfl⟩) (zPVL (q0 := 0) (ci := 8) hPc hDc hK hXL hS hFc rfl rfl) rfl rfl hl.1 rfl (lv_room (Nat.le_of_ble_eq_true rfl)) dX10_shift_176 ⟨Nat.le_of_ble_eq_true rfl, Nat.le_of_ble_eq_true rfl⟩) hS hFc hFc rfl (fun t H locs ht hB hk1 hS => ?_)
              obtain ⟨ul8, su8, nt8, TX8, TY8, rt8, nw8, WX8, WY8, rw8, g08, g18, g28, g38, g48, g58, g68, g78, hP1, hD1⟩ := hB
              rw [ht] at hP1
              obtain ⟨hP, hD⟩ := zkP (W2 := [(oc8 x (.ref sh) (.ref lw) (.ref ro) (.ref bq) (.ref bp) (.ref dq) (.ref dp) (.ref lv) (.ref sl) (nI dn) sd ul8 su8), (oc10 sl mc9 (.ref ea) (nI T)), (oc3 lw (.ref dr) (.ref tg) (.ref wy) (.ref br) (.ref bo) (.ref aa)), (oc6 tg (.ref tx) (.ref ty) (nI nt8) rt8), (oa tx cI 3 TX8), (oa ty cI 3 TY8), (oc6 wy (.ref wx) (.ref wz) (nI nw8) rw8), (oa wx cI 2 WX8), (oa wz cI 2 WY8), (oc6 dr (.ref dx) (.ref dy) (nI (nN (mn f0))) (rgK (kd f0).toInt)), (oa dx cI cd P7), (oa dy cI cd Q7), (oc0 br g08 g18 g28 g38), (oc0 bo g48 g58 g68 g78), (oc7 sh (.ref fa) (nI ft)), (oq fa cF 200 FA), (oc1 (fe f0) (rk f0) (wd f0) (tw f0) (pa f0) (pb f0) (.ref lo5) (.ref (la dn f0)) .null), (oc4 (la dn f0) (kd f0) (st f0) (.ref r5) (gb f0) (it f0) (nI we5)), (oc6 r5 (.ref rx5) (.ref ry5) (nI (nN (mn f0))) (rgK (kd f0).toInt)), (oa rx5 cI cap5 X5), (oa ry5 cI cap5 Y5), (oc6 lo5 (.ref lx5) (.ref ly5) (nI ln5) 0), (oa lx5 cI (cl f0) LX5), (oa ly5 cI (cl f0) LY5)]) hP hD [0, 1, 2, 3, 4, 5, 6, 7, 8, 9, 10, 11, 12, 13, 16, 17, 18, 19, 20, 21, 22, 23, 14, 15] [] [] [0, 1, 2, 3, 4, 5, 6, 7, 8, 9, 10, 11, 12, 13, 16, 17, 18, 19, 20, 21, 22, 23, 14, 15] [0, 1, 2, 3, 4, 5, 6, 7, 8, 9, 10, 11, 12, 13, 22, 23, 14, 15, 16, 17, 18, 19, 20, 21] 24 rfl rfl rfl rfl rfl rfl rfl rfl rfl hk1 hFc hP1 hD1
              clear hk1 hPc hDc hFc hP1 hD1 ht
              have hP := pl_back (cs := [(oc1 (fe f0) (rk f0) (wd f0) (tw f0) (pa f0) (pb f0) (.ref lo5) (.ref (la dn f0)) .null), (oc4 (la dn f0) (kd f0) (st f0) (.ref r5) (gb f0) (it f0) (nI we5)), (oc6 r5 (.ref rx5) (.ref ry5) (nI (nN (mn f0))) (rgK (kd f0).toInt)), (oa rx5 cI cap5 X5), (oa ry5 cI cap5 Y5), (oc6 lo5 (.ref lx5) (.ref ly5) (nI ln5) 0), (oa lx5 cI (cl f0) LX5), (oa ly5 cI (cl f0) LY5)]) (L := L) (f := f) (X := [(oc8 x (.ref sh) (.ref lw) (.ref ro) (.ref bq) (.ref bp) (.ref dq) (.ref dp) (.ref lv) (.ref sl) (nI dn) sd ul8 su8), (oc10 sl mc9 (.ref ea) (nI T)), (oc3 lw (.ref dr) (.ref tg) (.ref wy) (.ref br) (.ref bo) (.ref aa)), (oc6 tg (.ref tx) (.ref ty) (nI nt8) rt8), (oa tx cI 3 TX8), (oa ty cI 3 TY8), (oc6 wy (.ref wx) (.ref wz) (nI nw8) rw8), (oa wx cI 2 WX8), (oa wz cI 2 WY8), (oc6 dr (.ref dx) (.ref dy) (nI (nN (mn f0))) (rgK (kd f0).toInt)), (oa dx cI cd P7), (oa dy cI cd Q7), (oc0 br g08 g18 g28 g38), (oc0 bo g48 g58 g68 g78), (oc7 sh (.ref fa) (nI ft)), (oq fa cF 200 FA)]) (by rw [hT_1]; exact (show va_P (dC, dI) classes (([(oc8 x (.ref sh) (.ref lw) (.ref ro) (.ref bq) (.ref bp) (.ref dq) (.ref dp) (.ref lv) (.ref sl) (nI dn) sd ul8 su8), (oc10 sl mc9 (.ref ea) (nI T)), (oc3 lw (.ref dr) (.ref tg) (.ref wy) (.ref br) (.ref bo) (.ref aa)), (oc6 tg (.ref tx) (.ref ty) (nI nt8) rt8), (oa tx cI 3 TX8), (oa ty cI 3 TY8), (oc6 wy (.ref wx) (.ref wz) (nI nw8) rw8), (oa wx cI 2 WX8), (oa wz cI 2 WY8), (oc6 dr (.ref dx) (.ref dy) (nI (nN (mn f0))) (rgK (kd f0).toInt)), (oa dx cI cd P7), (oa dy cI cd Q7), (oc0 br g08 g18 g28 g38), (oc0 bo g48 g58 g68 g78), (oc7 sh (.ref fa) (nI ft)), (oq fa cF 200 FA)] ++ [(oc1 (fe f0) (rk f0) (wd f0) (tw f0) (pa f0) (pb f0) (.ref lo5) (.ref (la dn f0)) .null), (oc4 (la dn f0) (kd f0) (st f0) (.ref r5) (gb f0) (it f0) (nI we5)), (oc6 r5 (.ref rx5) (.ref ry5) (nI (nN (mn f0))) (rgK (kd f0).toInt)), (oa rx5 cI cap5 X5), (oa ry5 cI cap5 Y5), (oc6 lo5 (.ref lx5) (.ref ly5) (nI ln5) 0), (oa lx5 cI (cl f0) LX5), (oa ly5 cI (cl f0) LY5)]) ++ va_pl T_1 f) H from hP)) hc9_1
              have hD : va_D A ([(oc8 x (.ref sh) (.ref lw) (.ref ro) (.ref bq) (.ref bp) (.ref dq) (.ref dp) (.ref lv) (.ref sl) (nI dn) sd ul8 su8), (oc10 sl mc9 (.ref ea) (nI T)), (oc3 lw (.ref dr) (.ref tg) (.ref wy) (.ref br) (.ref bo) (.ref aa)), (oc6 tg (.ref tx) (.ref ty) (nI nt8) rt8), (oa tx cI 3 TX8), (oa ty cI 3 TY8), (oc6 wy (.ref wx) (.ref wz) (nI nw8) rw8), (oa wx cI 2 WX8), (oa wz cI 2 WY8), (oc6 dr (.ref dx) (.ref dy) (nI (nN (mn f0))) (rgK (kd f0).toInt)), (oa dx cI cd P7), (oa dy cI cd Q7), (oc0 br g08 g18 g28 g38), (oc0 bo g48 g58 g68 g78), (oc7 sh (.ref fa) (nI ft)), (oq fa cF 200 FA)] ++ va_pl L f) := vaD_ae hD0_1 rfl
              obtain ⟨hP9, hD9⟩ := zq_part (cx := [(oc8 x (.ref sh) (.ref lw) (.ref ro) (.ref bq) (.ref bp) (.ref dq) (.ref dp) (.ref lv) (.ref sl) (nI dn) sd ul8 su8), (oc10 sl mc9 (.ref ea) (nI T)), (oc3 lw (.ref dr) (.ref tg) (.ref wy) (.ref br) (.ref bo) (.ref aa)), (oc6 tg (.ref tx) (.ref ty) (nI nt8) rt8), (oa tx cI 3 TX8), (oa ty cI 3 TY8), (oc6 wy (.ref wx) (.ref wz) (nI nw8) rw8), (oa wx cI 2 WX8), (oa wz cI 2 WY8), (oc6 dr (.ref dx) (.ref dy) (nI (nN (mn f0))) (rgK (kd f0).toInt)), (oa dx cI cd P7), (oa dy cI cd Q7), (oc0 br g08 g18 g28 g38), (oc0 bo g48 g58 g68 g78), (oc7 sh (.ref fa) (nI ft)), (oq fa cF 200 FA)]) hP hD [0, 1, 2, 3, 4, 5, 6, 7, 8, 9, 10, 11, 12, 13, 14, 15] rfl rfl
              rw [hQ9]
              exact W.zret (ty := .boolean) (v := 0) hx hb hr (rfl) (fun t ht hW => ⟨⟨rfl, ul8, su8, nt8, TX8, TY8, rt8, nw8, WX8, WY8, rw8, g08, g18, g28, g38, g48, g58, g68, g78, P7, Q7, by rw [ht]; exact hP9, hD9⟩, hS.F ht⟩) hS.2.2 dX10_shift_179
          · have c_5 : ¬ ((0 : Int32).toInt ≤ (nI rr).toInt ∧ (nI rr).toInt ≤ (20 : Int32).toInt) := zp_0 c_5
            exfalso; omega
        · have c_4 : ¬ ((-200 : Int32).toInt ≤ sy.toInt ∧ sy.toInt ≤ (200 : Int32).toInt) := zp_0 c_4
          exfalso; omega
    · have c_2 : ¬ (st f0).toInt = 1 := zc_ne rfl rfl c_2
      exfalso; omega
  · have c_1 : ¬ (0 ≤ (nI kk).toInt ∧ (nI kk).toInt < (((nN (mn f0)) : Nat) : Int)) := zp_0 c_1
    exfalso; omega
end
section
/-! a box's area; numbers of the square -/
theorem nn_sub {a b : Nat} (ha : a < 2147483648) (hb : b < 2147483648) : nI a - nI b = iI (((a : Nat) : Int) - ((b : Nat) : Int)) := iI_of (by
  have h1 := nI_toInt (n := a) (by omega); have h2 := nI_toInt (n := b) (by omega)
  rw [fb_subI (by rw [h1, h2]; omega) (by rw [h1, h2]; omega), h1, h2])
theorem bx_id (a b c d : Int) : a * c - b * c + (b * d - b * c) + (b * d - a * d) + (a * c - a * d) = 2 * (b - a) * (d - c) := by grind
theorem bx_ar {X Y : Nat → Int32} {a b c d : Int} (h0 : (X 0).toInt = a ∧ (Y 0).toInt = c) (h1 : (X 1).toInt = b ∧ (Y 1).toInt = c) (h2 : (X 2).toInt = b ∧ (Y 2).toInt = d) (h3 : (X 3).toInt = a ∧ (Y 3).toInt = d) (hab : a ≤ b) (hcd : c ≤ d) : ((Int.natAbs (ar2 4 X Y 4) : Nat) : Int) = 2 * (b - a) * (d - c) := by
  have e : ar2 4 X Y 4 = 2 * (b - a) * (d - c) := by
    have n0 : nxt 4 0 = 1 := by decide
    have n1 : nxt 4 1 = 2 := by decide
    have n2 : nxt 4 2 = 3 := by decide
    have n3 : nxt 4 3 = 0 := by decide
    show 0 + ((X 0).toInt * (Y (nxt 4 0)).toInt - (X (nxt 4 0)).toInt * (Y 0).toInt) + ((X 1).toInt * (Y (nxt 4 1)).toInt - (X (nxt 4 1)).toInt * (Y 1).toInt) + ((X 2).toInt * (Y (nxt 4 2)).toInt - (X (nxt 4 2)).toInt * (Y 2).toInt) + ((X 3).toInt * (Y (nxt 4 3)).toInt - (X (nxt 4 3)).toInt * (Y 3).toInt) = _
    rw [n0, n1, n2, n3, h0.1, h0.2, h1.1, h1.2, h2.1, h2.2, h3.1, h3.2, ← bx_id]
    omega
  have hp : 0 ≤ 2 * (b - a) * (d - c) := Int.mul_nonneg (by omega) (by omega)
  rw [e, Int.natAbs_of_nonneg hp]
theorem bx_4 {P : Nat → Int32} {a b : Int32} : (upd (upd (upd (upd P 0 a) 1 b) 2 b) 3 a) 0 = a ∧ (upd (upd (upd (upd P 0 a) 1 b) 2 b) 3 a) 1 = b ∧ (upd (upd (upd (upd P 0 a) 1 b) 2 b) 3 a) 2 = b ∧ (upd (upd (upd (upd P 0 a) 1 b) 2 b) 3 a) 3 = a := by simp [upd]
theorem bx_5 {P : Nat → Int32} {a b : Int32} : (upd (upd (upd (upd P 0 a) 1 a) 2 b) 3 b) 0 = a ∧ (upd (upd (upd (upd P 0 a) 1 a) 2 b) 3 b) 1 = a ∧ (upd (upd (upd (upd P 0 a) 1 a) 2 b) 3 b) 2 = b ∧ (upd (upd (upd (upd P 0 a) 1 a) 2 b) 3 b) 3 = b := by simp [upd]
theorem mn_mx {z : Int} {X : Nat → Int32} : ∀ i, mnI z X i ≤ z ∧ z ≤ mxI z X i := by
  intro i
  induction i with
  | zero => exact ⟨Int.le_refl _, Int.le_refl _⟩
  | succ i ih => rw [mnI_s, mxI_s]; omega
/-- the box of a row of places -/
theorem bx_sq {n : Nat} {X Y P Q : Nat → Int32} (hp : pls n X Y) (h1 : 1 ≤ n) (p0 : P 0 = iI (mnI (X 0).toInt X n) ∧ P 1 = iI (mxI (X 0).toInt X n) ∧ P 2 = iI (mxI (X 0).toInt X n) ∧ P 3 = iI (mnI (X 0).toInt X n)) (q0 : Q 0 = iI (mnI (Y 0).toInt Y n) ∧ Q 1 = iI (mnI (Y 0).toInt Y n) ∧ Q 2 = iI (mxI (Y 0).toInt Y n) ∧ Q 3 = iI (mxI (Y 0).toInt Y n)) :
    pls 4 P Q ∧ ((Int.natAbs (ar2 4 P Q 4) : Nat) : Int) - ((Int.natAbs (ar2 n X Y n) : Nat) : Int) = dfB n X Y ∧ Int.natAbs (ar2 4 P Q 4) ≤ 4000000 ∧ Int.natAbs (ar2 n X Y n) ≤ 1000000 * n := by
  have a1 := mnP (z := (X 0).toInt) (hp 0 (by omega)).1 hp n (Nat.le_refl _)
  have a2 := mnP (z := (Y 0).toInt) (hp 0 (by omega)).2 hp n (Nat.le_refl _)
  have m1 := mn_mx (z := (X 0).toInt) (X := X) n
  have m2 := mn_mx (z := (Y 0).toInt) (X := Y) n
  have t1 : (iI (mnI (X 0).toInt X n)).toInt = mnI (X 0).toInt X n := iI_toInt (by omega)
  have t2 : (iI (mxI (X 0).toInt X n)).toInt = mxI (X 0).toInt X n := iI_toInt (by omega)
  have t3 : (iI (mnI (Y 0).toInt Y n)).toInt = mnI (Y 0).toInt Y n := iI_toInt (by omega)
  have t4 : (iI (mxI (Y 0).toInt Y n)).toInt = mxI (Y 0).toInt Y n := iI_toInt (by omega)
  have ar := bx_ar (X := P) (Y := Q) (a := mnI (X 0).toInt X n) (b := mxI (X 0).toInt X n) (c := mnI (Y 0).toInt Y n) (d := mxI (Y 0).toInt Y n) ⟨by rw [p0.1, t1], by rw [q0.1, t3]⟩ ⟨by rw [p0.2.1, t2], by rw [q0.2.1, t3]⟩ ⟨by rw [p0.2.2.1, t2], by rw [q0.2.2.1, t4]⟩ ⟨by rw [p0.2.2.2, t1], by rw [q0.2.2.2, t4]⟩ (by omega) (by omega)
  have c := mulB (u := mxI (X 0).toInt X n - mnI (X 0).toInt X n) (v := mxI (Y 0).toInt Y n - mnI (Y 0).toInt Y n) (by omega) (by omega) (by omega) (by omega)
  have d := ar2B hp n (Nat.le_refl _)
  refine ⟨fun j hj => ?_, by rw [ar, dfB_eq], ?_, by omega⟩
  · unfold pl
    rcases (by omega : j = 0 ∨ j = 1 ∨ j = 2 ∨ j = 3) with e | e | e | e
    · rw [e, p0.1, q0.1, t1, t3]; omega
    · rw [e, p0.2.1, q0.2.1, t2, t3]; omega
    · rw [e, p0.2.2.1, q0.2.2.1, t2, t4]; omega
    · rw [e, p0.2.2.2, q0.2.2.2, t1, t4]; omega
  · rw [Int.mul_assoc] at ar
    generalize (mxI (X 0).toInt X n - mnI (X 0).toInt X n) * (mxI (Y 0).toInt Y n - mnI (Y 0).toInt Y n) = m at *
    omega
end
section
/-! a feature, with all its numbers -/
def vwA (cI : ClassId) (L : List Nat) (f : Nat → va_E) (FA : Nat → Option Nat) (rk wd tw pa pb kd st gb it tn mn cx cy : Nat → Int32) (i : Nat) : Prop :=
  ∃ (fe lk lo : Nat) (we : Int32) (fm rv : Value), FA i = some fe ∧ (fe ∈ L ∧ f fe = .inr (1, [.int (rk i), .int (wd i), .int (tw i), .int (pa i), .int (pb i), .ref lo, .ref lk, fm])) ∧ (lk ∈ L ∧ f lk = .inr (4, [.int (kd i), .int (st i), rv, .int (gb i), .int (it i), .int we])) ∧
    (¬ (tn i).toInt = 0 → rv = .null) ∧ ((tn i).toInt = 0 → ∃ (r rx ry cap : Nat) (X Y : Nat → Int32) (rg : Int32), rv = .ref r ∧ rwA cI L f r rx ry (nN (mn i)) cap X Y rg ∧ rwR kd mn cx cy i cap X Y rg)
theorem vwA_2 {cI : ClassId} {L : List Nat} {f : Nat → va_E} {FA : Nat → Option Nat} {rk wd tw pa pb kd st gb it tn mn cx cy : Nat → Int32} {i : Nat} (h : vwA cI L f FA rk wd tw pa pb kd st gb it tn mn cx cy i) :
    (¬ (tn i).toInt = 0 ∧ ∃ (fe lk lo : Nat) (we : Int32) (fm : Value), FA i = some fe ∧ (fe ∈ L ∧ f fe = .inr (1, [.int (rk i), .int (wd i), .int (tw i), .int (pa i), .int (pb i), .ref lo, .ref lk, fm])) ∧ (lk ∈ L ∧ f lk = .inr (4, [.int (kd i), .int (st i), .null, .int (gb i), .int (it i), .int we]))) ∨
    ((tn i).toInt = 0 ∧ ∃ (fe lk lo : Nat) (we : Int32) (fm : Value) (r rx ry cap : Nat) (X Y : Nat → Int32) (rg : Int32), FA i = some fe ∧ (fe ∈ L ∧ f fe = .inr (1, [.int (rk i), .int (wd i), .int (tw i), .int (pa i), .int (pb i), .ref lo, .ref lk, fm])) ∧ (lk ∈ L ∧ f lk = .inr (4, [.int (kd i), .int (st i), .ref r, .int (gb i), .int (it i), .int we])) ∧ rwA cI L f r rx ry (nN (mn i)) cap X Y rg ∧ rwR kd mn cx cy i cap X Y rg) := by
  obtain ⟨fe, lk, lo, we, fm, rv, h1, h2, h3, h4, h5⟩ := h
  by_cases t0 : (tn i).toInt = 0
  · obtain ⟨r, rx, ry, cap, X, Y, rg, e, h6, h7⟩ := h5 t0
    subst e
    exact Or.inr ⟨t0, fe, lk, lo, we, fm, r, rx, ry, cap, X, Y, rg, h1, h2, h3, h6, h7⟩
  · have e := h4 t0
    subst e
    exact Or.inl ⟨t0, fe, lk, lo, we, fm, h1, h2, h3⟩
section
variable {cI cO : ClassId} {L : List Nat} {f : Nat → va_E} {own : Nat → Nat} {e0 ea n9 : Nat} {FA : Nat → Option Nat} {fe cl nw md sp : Nat → Nat} {la : Nat → Nat → Nat} {fm : Nat → Value} {SA : Nat → Option Nat} {bs dn T ft fN : Nat} {FT : Nat → Nat} {V : Nat → Nat → Nat → Int32} {VX VY : Nat → Nat → Int32} {tn rk wd tw pa pb wh of9 we kd st gb it mn cx cy : Nat → Int32}
theorem sh_va {cs : va_W} {q : Nat} (hF : FeA cI L f own fN fe nw cl fm rk wd tw pa pb) (hN : NwA cI L f own ft nw cl md kd st gb it tn mn cx cy) (hA : ∀ q, q < ft → FA q = some (fe q)) (hf : ft ≤ fN) (hq : q < ft) (hc : ∀ c ∈ cs, own c.1 / 8 ≠ q) : vwA cI (outPl L cs) f FA rk wd tw pa pb kd st gb it tn mn cx cy q := by
  have hg : ∀ g, g / 8 = q → ∀ c ∈ cs, own c.1 ≠ g := fun g hg c h1 e => hc c h1 (by rw [e]; exact hg)
  have t1 : glM (md q) q / 8 = q := by unfold glM; split <;> omega
  have t2 : grM (md q) q / 8 = q := by unfold grM; split <;> omega
  obtain ⟨lo, lx, ly, ln, LX, LY, f1, f2, f3⟩ := hF q (by omega)
  obtain ⟨we, rv, n1, n2, n3, n4, n5⟩ := hN q hq
  refine ⟨fe q, nw q, lo, nI we, fm q, rv, hA q hq, ce_pl (ce_out f1 (hg _ (by omega))), ce_pl (ce_out n1 (hg _ t1)), n4, fun h0 => ?_⟩
  obtain ⟨r, rx, ry, cap, X, Y, e, r1, r2, r3, r4, r5, r6⟩ := n5 h0
  refine ⟨r, rx, ry, cap, X, Y, rgK (kd q).toInt, e, ⟨ce_pl (ce_out r1.1 (hg _ t2)), ce_pl (ce_out r1.2.1 (hg _ t2)), ce_pl (ce_out r1.2.2.1 (hg _ t2)), r1.2.2.2⟩, r2, r3, rgK_01 _, ?_, r5⟩
  unfold rgK; split <;> rfl
theorem shB_va (h : shB cI cO L f e0 FA ea bs dn T ft FT V VX VY tn rk wd tw pa pb wh of9 we kd st gb it mn cx cy) : ∀ q, q < ft → vwA cI L f FA rk wd tw pa pb kd st gb it tn mn cx cy q := by
  obtain ⟨own, fe, cl, la, sp, SA, ⟨h1, h2, h3, h4, h5, h6, h7⟩, h8, h9⟩ := h
  intro q hq
  have := sh_va (cs := []) h1 h2 h7 h6.2.2.2.2.1 hq (fun c hc => by cases hc)
  rw [outPl_nil] at this
  exact this
theorem M_thf {q : Nat} {lo lx ly ln ln1 : Nat} {LX LY LX1 LY1 : Nat → Int32} {we9 we1 r rx ry cap n1 : Nat} {X Y X1 Y1 : Nat → Int32} {Xw : va_W} {mn1 cx1 cy1 : Nat → Int32} {L1 : List Nat} {f1 : Nat → va_E}
    (hG : shG cI cO L f e0 FA ea n9 own fe cl la nw md sp fm SA bs dn dn ft ft FT V VX VY tn rk wd tw pa pb wh of9 we kd st gb it mn cx cy) (hM : mdA dn ft FT la nw md fm V kd st gb it) (hm : md q = 1) (hq : q < ft) (ht : (tn q).toInt = 0) (hbd : 1 ≤ (kd q).toInt ∧ (kd q).toInt ≤ 5)
    (hc : fcA cI L f own q (8 * q + 4) (8 * q + 5) (fe q) (nw q) (cl q) (.ref (la dn q)) (rk q) (wd q) (tw q) (pa q) (pb q) (kd q) (st q) (gb q) (it q) (nN (mn q)) (cF40 cx q) (cF40 cy q) lo lx ly ln LX LY we9 r rx ry cap X Y)
    (hp : pinD L f Xw [(fe q, .inr (1, [.int (rk q), .int (wd q), .int (tw q), .int (pa q), .int (pb q), .ref lo, .ref (nw q), .ref (la dn q)])), (nw q, .inr (4, [.int (kd q), .int (st q), .ref r, .int (gb q), .int (it q), .int (nI we1)])), (r, .inr (6, [.ref rx, .ref ry, .int (nI n1), .int (rgK (kd q).toInt)])), (rx, .inl (cI, cap, .inl X1)), (ry, .inl (cI, cap, .inl Y1)), (lo, .inr (6, [.ref lx, .ref ly, .int (nI ln1), .int 0])), (lx, .inl (cI, cl q, .inl LX1)), (ly, .inl (cI, cl q, .inl LY1))] []
      [(fe q, .inr (1, [.int (rk q), .int (wd q), .int (tw q), .int (pa q), .int (pb q), .ref lo, .ref (nw q), .ref (la dn q)])), (nw q, .inr (4, [.int (kd q), .int (st q), .ref r, .int (gb q), .int (it q), .int (nI we1)])), (r, .inr (6, [.ref rx, .ref ry, .int (nI n1), .int (rgK (kd q).toInt)])), (rx, .inl (cI, cap, .inl X1)), (ry, .inl (cI, cap, .inl Y1)), (lo, .inr (6, [.ref lx, .ref ly, .int (nI ln1), .int 0])), (lx, .inl (cI, cl q, .inl LX1)), (ly, .inl (cI, cl q, .inl LY1))] L1 f1)
    (ho : othS q kd st gb it mn cx cy kd st gb it mn1 cx1 cy1) (hn1 : nN (mn1 q) = n1) (hX1 : ∀ k, k < n1 → X1 k = cF40 cx1 q k ∧ Y1 k = cF40 cy1 q k) (hcap : n1 ≤ cap ∧ we1 + n1 ≤ 40) (hln : ln1 ≤ cl q) :
    ∃ (own1 nw1 md1 : Nat → Nat) (fm1 : Nat → Value), shG cI cO L1 f1 e0 FA ea n9 own1 fe cl la nw1 md1 sp fm1 SA bs dn dn ft ft FT V VX VY tn rk wd tw pa pb wh of9 we kd st gb it mn1 cx1 cy1 ∧ mdA dn ft FT la nw1 md1 fm1 V kd st gb it ∧ md1 = upN md q 1 := by
  obtain ⟨hfr, hkp, hce, hsx, hpw⟩ := hp
  obtain ⟨⟨a1, a2, ⟨a3, a4, a5, a6⟩, ⟨a7, a8, a9, a10⟩⟩, b1, b2, b3, b4, b5⟩ := hc
  have hmq := (hM q hq).2 (by omega)
  have hk := hkp own own (notQ q) (fun _ _ => rfl) ⟨fun _ h => absurd a1.2.2 h.1, fun _ h => absurd a2.2.2 h.2.2.1, fun _ h => absurd a3.2.2 h.2.2.2, fun _ h => absurd a4.2.2 h.2.2.2, fun _ h => absurd a5.2.2 h.2.2.2, fun _ h => absurd a7.2.2 h.2.1, fun _ h => absurd a8.2.2 h.2.1, fun _ h => absurd a9.2.2 h.2.1, trivial⟩
  have hfe : feG cI L1 f1 own q (fe q) (nw q) (cl q) (.ref (la dn q)) (rk q) (wd q) (tw q) (pa q) (pb q) := ⟨lo, lx, ly, ln1, LX1, LY1, hce _ 0 _ _ _ rfl a1.2.2, ⟨hce _ 5 _ _ _ rfl a7.2.2, hce _ 6 _ _ _ rfl a8.2.2, hce _ 7 _ _ _ rfl a9.2.2, a10⟩, hln, b1.2⟩
  have hlk : lkG cI L1 f1 own (glM 1 q) (grM 1 q) (nw q) (cl q) (kd q) (st q) (gb q) (it q) (tn q) (nN (mn1 q)) (cF40 cx1 q) (cF40 cy1 q) := by
    rw [hn1]
    exact ⟨we1, .ref r, hce _ 1 _ _ _ rfl a2.2.2, by omega, fun g => (b5 g).1, fun g => absurd ht g, fun _ => ⟨r, rx, ry, cap, X1, Y1, rfl, ⟨hce _ 2 _ _ _ rfl a3.2.2, hce _ 3 _ _ _ rfl a4.2.2, hce _ 4 _ _ _ rfl a5.2.2, a6⟩, hcap.1, b2.2.1, fun g => absurd g hmq.2.2.2, hX1, fun _ => hcap.2⟩⟩
  have hres := M_new (m := 1) (nq := nw q) hG hM hk hfe hlk ho (by decide) hq hmq.2.1 hmq.2.2.1 hmq.2.2.2
  exact ⟨_, _, _, _, hres.1, hres.2, rfl⟩
end
theorem vwA_3 {cI : ClassId} {L : List Nat} {f : Nat → va_E} {FA : Nat → Option Nat} {rk wd tw pa pb kd st gb it tn mn cx cy : Nat → Int32} {i : Nat} {P9 : Prop} (h : vwA cI L f FA rk wd tw pa pb kd st gb it tn mn cx cy i) :
    (¬ (tn i).toInt = 0 ∧ ∃ (fe lk lo : Nat) (we : Int32) (fm : Value), FA i = some fe ∧ (fe ∈ L ∧ f fe = .inr (1, [.int (rk i), .int (wd i), .int (tw i), .int (pa i), .int (pb i), .ref lo, .ref lk, fm])) ∧ (lk ∈ L ∧ f lk = .inr (4, [.int (kd i), .int (st i), .null, .int (gb i), .int (it i), .int we]))) ∨
    ((tn i).toInt = 0 ∧ P9 ∧ ∃ (fe lk lo : Nat) (we : Int32) (fm : Value) (r rx ry cap : Nat) (X Y : Nat → Int32) (rg : Int32), FA i = some fe ∧ (fe ∈ L ∧ f fe = .inr (1, [.int (rk i), .int (wd i), .int (tw i), .int (pa i), .int (pb i), .ref lo, .ref lk, fm])) ∧ (lk ∈ L ∧ f lk = .inr (4, [.int (kd i), .int (st i), .ref r, .int (gb i), .int (it i), .int we])) ∧ rwA cI L f r rx ry (nN (mn i)) cap X Y rg ∧ rwR kd mn cx cy i cap X Y rg) ∨
    ((tn i).toInt = 0 ∧ ¬ P9 ∧ ∃ (fe lk lo : Nat) (we : Int32) (fm : Value) (r rx ry cap : Nat) (X Y : Nat → Int32) (rg : Int32), FA i = some fe ∧ (fe ∈ L ∧ f fe = .inr (1, [.int (rk i), .int (wd i), .int (tw i), .int (pa i), .int (pb i), .ref lo, .ref lk, fm])) ∧ (lk ∈ L ∧ f lk = .inr (4, [.int (kd i), .int (st i), .ref r, .int (gb i), .int (it i), .int we])) ∧ rwA cI L f r rx ry (nN (mn i)) cap X Y rg ∧ rwR kd mn cx cy i cap X Y rg) := by
  rcases vwA_2 h with g | ⟨t0, g⟩
  · exact Or.inl g
  · by_cases p : P9
    · exact Or.inr (Or.inl ⟨t0, p, g⟩)
    · exact Or.inr (Or.inr ⟨t0, p, g⟩)
end
section
/-! what holds of all that are there -/
def okA (ft : Nat) (st tn kd mn cx cy : Nat → Int32) : Prop := ∀ q, lvF ft st tn q → wfM mn cx cy q ∧ mSm (kd q).toInt (nN (mn q)) (cF40 cx q) (cF40 cy q)
section
variable {ft : Nat} {st tn kd mn cx cy mn1 cx1 cy1 : Nat → Int32}
theorem okA_kn (h : okA ft st tn kd mn cx cy) : okN ft st tn kd mn := fun q hq => by
  have hs := (h q hq).2
  by_cases e : (kd q).toInt = 0
  · exact Or.inl ⟨e, hs.1 e⟩
  · refine Or.inr ⟨e, ?_⟩
    have := (hs.2 e).1
    unfold mnc at this
    split at this <;> omega
theorem okA_al (h : okA ft st tn kd mn cx cy) : allI ft st tn kd mn cx cy := fun q hq => ⟨(h q hq).1, fun g => by
  have := ((h q hq).2.2 (by omega)).1
  unfold mnc at this
  rw [if_pos g] at this; exact this⟩
theorem okA_th {f : Nat} (h : okA ft st tn kd mn cx cy) (hf : lvF ft st tn f) (hb : 1 ≤ (kd f).toInt ∧ (kd f).toInt ≤ 5) : thI ft st tn kd f mn cx cy (nN (mn f)) := by
  have hk := okA_kn h f hf
  refine ⟨allI_p (okA_al h) hf, (h f hf).2, okA_kn h, hb, by omega, (okA_al h f hf).2, hf⟩
theorem thI_e {f L : Nat} : ∀ (m n : Nat) (mn cx cy mn1 cx1 cy1 : Nat → Int32) (n1 : Nat), thI ft st tn kd f mn cx cy n → plN ft st tn kd f L m mn cx cy n mn1 cx1 cy1 n1 → thI ft st tn kd f mn1 cx1 cy1 n1 := by
  intro m
  induction m with
  | zero =>
    intro n mn cx cy mn1 cx1 cy1 n1 h hp
    obtain ⟨e1, e2, e3, e4, _⟩ := plN_z rfl hp
    rw [e1, e2, e3, e4]; exact h
  | succ m ih =>
    intro n mn cx cy mn1 cx1 cy1 n1 h hp
    obtain ⟨r, k, e, hb, hr⟩ := plN_p (by omega) hp
    have e : r = m := by omega
    subst e
    exact ih _ _ _ _ _ _ _ _ (thI_s h hb) hr
theorem okA_s {f L m n1 : Nat} (h : okA ft st tn kd mn cx cy) (hf : lvF ft st tn f) (hb : 1 ≤ (kd f).toInt ∧ (kd f).toInt ≤ 5) (hp : plN ft st tn kd f L m mn cx cy (nN (mn f)) mn1 cx1 cy1 n1) : okA ft st tn kd mn1 cx1 cy1 := by
  have hI := okA_th h hf hb
  have hE := thI_e _ _ _ _ _ _ _ _ _ hI hp
  have h2 := plN_end _ _ _ _ _ _ _ _ _ hI.1 hp
  intro q hq
  refine ⟨h2.1.2.2.2.1 q hq, ?_⟩
  by_cases e : q = f
  · subst e
    rw [h2.1.1, nN_n9 (by have := h2.1.2.1; omega)]; exact hE.2.1
  · rw [h2.2.2.1 q e]
    exact mSm_cg (fun j hj => by
      have w := (h q hq).1.2.1
      have := h2.2.2.2.1 (40 * q + j) (by omega)
      exact ⟨this.1.symm, this.2.symm⟩) (h q hq).2
end
/-! RUN by the class: what is counted -/
def cmd (md : Nat → Nat) : Nat → Nat
  | 0 => 0
  | k + 1 => cmd md k + (if md k = 0 then 0 else 1)
def smd (md n0 : Nat → Nat) : Nat → Nat
  | 0 => 0
  | k + 1 => smd md n0 k + (if md k = 0 then 0 else 2 * n0 k + 10)
theorem cmd_le (md : Nat → Nat) : ∀ k, cmd md k ≤ k := by
  intro k
  induction k with
  | zero => exact Nat.le_refl _
  | succ k ih => show cmd md k + (if md k = 0 then 0 else 1) ≤ k + 1; split <;> omega
theorem smd_le (md n0 : Nat → Nat) : ∀ k, smd md n0 k ≤ smd (fun _ => 1) n0 k := by
  intro k
  induction k with
  | zero => exact Nat.le_refl _
  | succ k ih => show smd md n0 k + (if md k = 0 then 0 else 2 * n0 k + 10) ≤ smd (fun _ => 1) n0 k + (2 * n0 k + 10); split <;> omega
theorem cmd_o {md : Nat → Nat} {q v : Nat} : ∀ k, k ≤ q → cmd (upN md q v) k = cmd md k := by
  intro k
  induction k with
  | zero => intro _; rfl
  | succ k ih => intro h; show cmd (upN md q v) k + (if upN md q v k = 0 then 0 else 1) = _; rw [ih (by omega), upN_o (by omega)]; rfl
theorem smd_o {md n0 : Nat → Nat} {q v : Nat} : ∀ k, k ≤ q → smd (upN md q v) n0 k = smd md n0 k := by
  intro k
  induction k with
  | zero => intro _; rfl
  | succ k ih => intro h; show smd (upN md q v) n0 k + (if upN md q v k = 0 then 0 else 2 * n0 k + 10) = _; rw [ih (by omega), upN_o (by omega)]; rfl
theorem cmd_s {md : Nat → Nat} {q : Nat} : ∀ k, q < k → cmd (upN md q 1) k = cmd md k + (if md q = 0 then 1 else 0) := by
  intro k
  induction k with
  | zero => intro h; omega
  | succ k ih =>
    intro h
    show cmd (upN md q 1) k + (if upN md q 1 k = 0 then 0 else 1) = cmd md k + (if md k = 0 then 0 else 1) + _
    by_cases e : k = q
    · subst e; rw [cmd_o k (Nat.le_refl _), upN_at, if_neg (by decide)]; split <;> omega
    · rw [ih (by omega), upN_o e]; omega
theorem smd_s {md n0 : Nat → Nat} {q : Nat} : ∀ k, q < k → smd (upN md q 1) n0 k = smd md n0 k + (if md q = 0 then 2 * n0 q + 10 else 0) := by
  intro k
  induction k with
  | zero => intro h; omega
  | succ k ih =>
    intro h
    show smd (upN md q 1) n0 k + (if upN md q 1 k = 0 then 0 else 2 * n0 k + 10) = smd md n0 k + (if md k = 0 then 0 else 2 * n0 k + 10) + _
    by_cases e : k = q
    · subst e; rw [smd_o k (Nat.le_refl _), upN_at, if_neg (by decide)]; split <;> omega
    · rw [ih (by omega), upN_o e]; omega
theorem run_c {cI : ClassId} {L : List Nat} {f : Nat → va_E} {FA : Nat → Option Nat} {kd st tn mn cx cy : Nat → Int32} {ft i : Nat} (h : ∀ q, q < ft → vwO cI L f FA kd st tn mn cx cy q) (hi : i < ft) :
    (¬ (tn i).toInt = 0 ∧ vwT L f FA kd st i) ∨ ((tn i).toInt = 0 ∧ ¬ ((st i).toInt = 1 ∧ (1 ≤ (kd i).toInt ∧ (kd i).toInt ≤ 5)) ∧ vwL cI L f FA kd st mn cx cy i) ∨ (lvF ft st tn i ∧ (1 ≤ (kd i).toInt ∧ (kd i).toInt ≤ 5)) := by
  by_cases t0 : (tn i).toInt = 0
  · by_cases s1 : (st i).toInt = 1 ∧ (1 ≤ (kd i).toInt ∧ (kd i).toInt ≤ 5)
    · exact Or.inr (Or.inr ⟨⟨hi, s1.1, t0⟩, s1.2⟩)
    · exact Or.inr (Or.inl ⟨t0, s1, (h i hi).2.2 t0⟩)
  · exact Or.inl ⟨t0, (h i hi).2.1 t0⟩
theorem run_c6 {cI : ClassId} {L : List Nat} {f : Nat → va_E} {FA : Nat → Option Nat} {kd st tn mn cx cy : Nat → Int32} {ft i m : Nat} {md : Nat → Nat} (h : ∀ q, q < ft → vwO cI L f FA kd st tn mn cx cy q) (hi : i < ft) (hm : md i ≤ 1) :
    (¬ (tn i).toInt = 0 ∧ vwT L f FA kd st i) ∨ ((tn i).toInt = 0 ∧ ¬ ((st i).toInt = 1 ∧ (1 ≤ (kd i).toInt ∧ (kd i).toInt ≤ 5)) ∧ vwL cI L f FA kd st mn cx cy i) ∨ ((lvF ft st tn i ∧ (1 ≤ (kd i).toInt ∧ (kd i).toInt ≤ 5)) ∧ m = 0 ∧ md i = 0) ∨ ((lvF ft st tn i ∧ (1 ≤ (kd i).toInt ∧ (kd i).toInt ≤ 5)) ∧ m = 0 ∧ md i = 1) ∨ ((lvF ft st tn i ∧ (1 ≤ (kd i).toInt ∧ (kd i).toInt ≤ 5)) ∧ 1 ≤ m ∧ md i = 0) ∨ ((lvF ft st tn i ∧ (1 ≤ (kd i).toInt ∧ (kd i).toInt ≤ 5)) ∧ 1 ≤ m ∧ md i = 1) := by
  rcases run_c h hi with g | g | g
  · exact Or.inl g
  · exact Or.inr (Or.inl g)
  · by_cases e : m = 0
    · by_cases e2 : md i = 0
      · exact Or.inr (Or.inr (Or.inl ⟨g, e, e2⟩))
      · exact Or.inr (Or.inr (Or.inr (Or.inl ⟨g, e, by omega⟩)))
    · by_cases e2 : md i = 0
      · exact Or.inr (Or.inr (Or.inr (Or.inr (Or.inl ⟨g, by omega, e2⟩))))
      · exact Or.inr (Or.inr (Or.inr (Or.inr (Or.inr ⟨g, by omega, by omega⟩))))
end
section
set_option maxHeartbeats 4000000 in
set_option maxRecDepth 100000 in
theorem k_Sheet_houseThere_yv (l : Launch) (dC : Nat → ClassId) (dI : Nat → Nat → Nat) (cI cZ cF : ClassId) (sz : Nat) (sh : Nat) (fa : Nat) (ft : Nat) (FA : Nat → Option Nat) (i : Nat) (fe : Nat) (lo : Nat) (rk9 : Int32) (wd9 : Int32) (tw9 : Int32) (pa9 : Int32) (pb9 : Int32) (lk : Nat) (kd9 : Int32) (st9 : Int32) (gb9 : Int32) (jt9 : Int32) (we9 : Int32) (r : Nat) (fm9 : Value) (h200 : ft ≤ 200) (hi : i < ft) (hFA : FA i = some fe) (hs1 : st9.toInt = 1) (hkd : kd9.toInt = 6) : Met l yX8_houseThere (.code yX8_houseThere cX8_houseThere 3 (some (.object "ScaleShop$Row")) :: ws0) ({ frames := 2, cells := 0, slots := 0, locals := 43 } : Room) (va_Pc [.ref sh, .int (nI i)] (zPre (dC, dI) classes (zTy cI cZ cF) [(oc7 sh (.ref fa) (nI ft)), (oq fa cF 200 FA), (oc1 fe rk9 wd9 tw9 pa9 pb9 (.ref lo) (.ref lk) fm9), (oc4 lk kd9 st9 (.ref r) gb9 jt9 we9)] sz zXN)) (zQ (some (.ref r)) (fun t => va_P (dC, dI) classes [(oc7 sh (.ref fa) (nI ft)), (oq fa cF 200 FA), (oc1 fe rk9 wd9 tw9 pa9 pb9 (.ref lo) (.ref lk) fm9), (oc4 lk kd9 st9 (.ref r) gb9 jt9 we9)] t.heap ∧ va_D (va_A [(oc7 sh (.ref fa) (nI ft)), (oq fa cF 200 FA), (oc1 fe rk9 wd9 tw9 pa9 pb9 (.ref lo) (.ref lk) fm9), (oc4 lk kd9 st9 (.ref r) gb9 jt9 we9)] sz) [(oc7 sh (.ref fa) (nI ft)), (oq fa cF 200 FA), (oc1 fe rk9 wd9 tw9 pa9 pb9 (.ref lo) (.ref lk) fm9), (oc4 lk kd9 st9 (.ref r) gb9 jt9 we9)]) (va_A [(oc7 sh (.ref fa) (nI ft)), (oq fa cF 200 FA), (oc1 fe rk9 wd9 tw9 pa9 pb9 (.ref lo) (.ref lk) fm9), (oc4 lk kd9 st9 (.ref r) gb9 jt9 we9)] sz)) 0 0 (va_A [(oc7 sh (.ref fa) (nI ft)), (oq fa cF 200 FA), (oc1 fe rk9 wd9 tw9 pa9 pb9 (.ref lo) (.ref lk) fm9), (oc4 lk kd9 st9 (.ref r) gb9 jt9 we9)] sz) := by
  refine Met.ofW (cc := cX8_houseThere) (maxL := 3) (ret := (some (.object "ScaleShop$Row"))) rfl rfl ?_
  intro p e s m args below meth c s₁ B hml hv
  obtain ⟨rfl, hsz, hP, hK, hD0, hXN⟩ := hv
  have hx := B.exec
  have hb := B.bytes
  have hr := B.returns
  have hts0 := atoms_spec (ws := .code yX8_houseThere cX8_houseThere 3 (some (.object "ScaleShop$Row")) :: ws0) B.pre
  have hts : ∀ w9 ∈ ws0, w9.before ([.ref sh, .int (nI i)] : List Value).toArray s = true := fun w9 h => hts0 w9 (List.mem_cons_of_mem _ h)
  have hown : s.vm.findClass "ScaleShop$Sheet" = some m.cls := findClass_of_methodNamed B.named
  have hlocks := B.notSynchronized
  subst hsz
  have hD := hD0.self (sz := s.heap.size)
  clear hD0
  generalize hAe : va_A [(oc7 sh (.ref fa) (nI ft)), (oq fa cF 200 FA), (oc1 fe rk9 wd9 tw9 pa9 pb9 (.ref lo) (.ref lk) fm9), (oc4 lk kd9 st9 (.ref r) gb9 jt9 we9)] s.heap.size = A at hD ⊢
  have hA : ∀ q : Nat, s.heap.size ≤ q → A q := fun q h => by rw [← hAe]; exact Or.inr h
  clear hAe
  have hS : va_S A s.heap s.heap [] := va_S.rf
  have hP : va_P (dC, dI) classes [(oc7 sh (.ref fa) (nI ft)), (oq fa cF 200 FA), (oc1 fe rk9 wd9 tw9 pa9 pb9 (.ref lo) (.ref lk) fm9), (oc4 lk kd9 st9 (.ref r) gb9 jt9 we9)] s.heap := hP
  obtain ⟨Q9, hQ9⟩ : ∃ Q9 : State → Prop, Q9 = MQ below (zQ (some (.ref r)) (fun t => va_P (dC, dI) classes [(oc7 sh (.ref fa) (nI ft)), (oq fa cF 200 FA), (oc1 fe rk9 wd9 tw9 pa9 pb9 (.ref lo) (.ref lk) fm9), (oc4 lk kd9 st9 (.ref r) gb9 jt9 we9)] t.heap ∧ va_D A [(oc7 sh (.ref fa) (nI ft)), (oq fa cF 200 FA), (oc1 fe rk9 wd9 tw9 pa9 pb9 (.ref lo) (.ref lk) fm9), (oc4 lk kd9 st9 (.ref r) gb9 jt9 we9)]) A) ([.ref sh, .int (nI i)] : List Value).toArray s 0 0 A := ⟨_, rfl⟩
  rw [← hQ9]
  have hl := lv_entry ([.ref sh, .int (nI i)]) (n := 3) (Nat.le_of_ble_eq_true rfl)
  rw [lg_entry_eq]
  generalize (lg_sl ([.ref sh, .int (nI i)]) ++ List.replicate (3 - (lg_sl ([.ref sh, .int (nI i)])).length) Slot.unset).toArray = ls at hl ⊢
  have hl : lv_has ls 3 [(0, .ref sh), (1, .int (nI i))] := hl
  refine lv_aload_n hx hb dX8_houseThere_0 rfl (lv_at hl 0 rfl) ?_
  refine lv_iload_n hx hb dX8_houseThere_1 rfl (lv_at hl 1 rfl) ?_
  obtain ⟨hPc, hDc, hFc⟩ := zc_sub (wc := [(oc7 sh (.ref fa) (nI ft)), (oq fa cF 200 FA)]) hP hD hS hA [0, 1] rfl rfl
  refine zcall (st1 := [.ref fe]) (va_runV (As := [.int (nI i)]) (rest := []) ⟨hx, hb, hml, hown, hts⟩ (k_Sheet_find l dC dI cI cZ cF s.heap.size sh fa ft FA i fe (by first | with_reducible assumption | omega) (by first | with_reducible assumption | omega) (hFA)) (csV_36 hts rfl rfl ⟨Nat.le_of_ble_eq_true rfl, Nat.le_of_ble_eq_true rfl⟩) (zPV2 (q0 := 0) (ci := 7) hPc hDc hK hXN rfl rfl) rfl rfl hl.1 rfl (lv_room (Nat.le_of_ble_eq_true rfl)) dX8_houseThere_2 ⟨Nat.le_of_ble_eq_true rfl, Nat.le_of_ble_eq_true rfl⟩) hS hFc hFc rfl (fun t H locs ht hB hk1 hS => ?_)
  obtain ⟨hP1, hD1⟩ := hB
  rw [ht] at hP1
  obtain ⟨hP, hD⟩ := zk (W2 := [(oc7 sh (.ref fa) (nI ft)), (oq fa cF 200 FA), (oc1 fe rk9 wd9 tw9 pa9 pb9 (.ref lo) (.ref lk) fm9), (oc4 lk kd9 st9 (.ref r) gb9 jt9 we9)]) hP hD [0, 1] [2, 3] [2, 3] [0, 1] [2, 3, 0, 1] 4 rfl rfl rfl rfl rfl rfl rfl rfl rfl hk1 hFc hP1 hD1
  clear hk1 hPc hDc hFc hP1 hD1 ht
  refine lv_astore_n (lv' := [(2, .ref fe), (0, .ref sh), (1, .int (nI i))]) hx hb dX8_houseThere_5 rfl hl (Nat.le_of_ble_eq_true rfl) rfl (fun ls hl => ?_)
  refine lv_aload_n hx hb dX8_houseThere_6 rfl (lv_at hl 0 rfl) ?_
  refine lv_ifnull hx hb dX8_houseThere_7 ?_
  refine lv_aload_n hx hb dX8_houseThere_10 rfl (lv_at hl 0 rfl) ?_
  refine va_get (D := (dC, dI)) (ci := 1) (v := .ref lk) (C := RX2) (T := TX2) (N := 8) hx hb hts inX2 hown hK hP 2 rfl rfl 6 (Nat.le_of_ble_eq_true rfl) (hts _ mw_434) (fun _ h9 => h9) rfl dX8_houseThere_11 ?_
  refine va_get (D := (dC, dI)) (ci := 4) (v := .int kd9) (C := RX5) (T := TX5) (N := 6) hx hb hts inX5 hown hK hP 3 rfl rfl 0 (Nat.le_of_ble_eq_true rfl) (hts _ mw_383) (fun _ h9 => h9) rfl dX8_houseThere_14 ?_
  refine lv_bipush (v := 6) hx hb dX8_houseThere_17 rfl ?_
  refine lv_icmp_ne (tgt := 30) hx hb dX8_houseThere_19 rfl (fun c_1 => ?_) (fun c_1 => ?_)
  · have c_1 : ¬ kd9.toInt = 6 := zc_ne rfl rfl c_1
    exfalso; omega
  · have c_1 : kd9.toInt = 6 := zc_eq rfl rfl c_1
    refine lv_aload_n hx hb dX8_houseThere_22 rfl (lv_at hl 1 rfl) ?_
    refine lv_iload_n hx hb dX8_houseThere_23 rfl (lv_at hl 2 rfl) ?_
    obtain ⟨hPc, hDc, hFc⟩ := zc_sub (wc := [(oc7 sh (.ref fa) (nI ft)), (oq fa cF 200 FA), (oc1 fe rk9 wd9 tw9 pa9 pb9 (.ref lo) (.ref lk) fm9), (oc4 lk kd9 st9 (.ref r) gb9 jt9 we9)]) hP hD hS hA [0, 1, 2, 3] rfl rfl
    refine zcall (st1 := [.ref r]) (va_runV (As := [.int (nI i)]) (rest := []) ⟨hx, hb, hml, hown, hts⟩ (k_Sheet_rowThere_yv l dC dI cI cZ cF H.size sh fa ft FA i fe lo rk9 wd9 tw9 pa9 pb9 lk kd9 st9 gb9 jt9 we9 r fm9 (by first | with_reducible assumption | omega) (by first | with_reducible assumption | omega) (hFA) (by first | with_reducible assumption | omega)) (csV_37 hts rfl rfl ⟨Nat.le_of_ble_eq_true rfl, Nat.le_of_ble_eq_true rfl⟩) (zPV2 (q0 := 0) (ci := 7) hPc hDc hK hXN rfl rfl) rfl rfl hl.1 rfl (lv_room (Nat.le_of_ble_eq_true rfl)) dX8_houseThere_24 ⟨Nat.le_of_ble_eq_true rfl, Nat.le_of_ble_eq_true rfl⟩) hS hFc hFc rfl (fun t H locs ht hB hk1 hS => ?_)
    obtain ⟨hP1, hD1⟩ := hB
    rw [ht] at hP1
    obtain ⟨hP, hD⟩ := zk (W2 := [(oc7 sh (.ref fa) (nI ft)), (oq fa cF 200 FA), (oc1 fe rk9 wd9 tw9 pa9 pb9 (.ref lo) (.ref lk) fm9), (oc4 lk kd9 st9 (.ref r) gb9 jt9 we9)]) hP hD [0, 1, 2, 3] [] [] [0, 1, 2, 3] [0, 1, 2, 3] 4 rfl rfl rfl rfl rfl rfl rfl rfl rfl hk1 hFc hP1 hD1
    clear hk1 hPc hDc hFc hP1 hD1 ht
    refine lv_goto (tgt := 31) hx hb dX8_houseThere_27 rfl ?_
    obtain ⟨hP9, hD9⟩ := zq_sub (wc := [(oc7 sh (.ref fa) (nI ft)), (oq fa cF 200 FA), (oc1 fe rk9 wd9 tw9 pa9 pb9 (.ref lo) (.ref lk) fm9), (oc4 lk kd9 st9 (.ref r) gb9 jt9 we9)]) hP hD [0, 1, 2, 3] rfl rfl
    rw [hQ9]
    exact W.aret hx hb hr (Or.inl ⟨_, rfl⟩) (Or.inr ⟨_, rfl⟩) (fun t ht hW => ⟨⟨rfl, by rw [ht]; exact hP9, hD9⟩, hS.F ht⟩) hS.2.2 dX8_houseThere_31
set_option maxHeartbeats 4000000 in
set_option maxRecDepth 100000 in
theorem k_Sheet_houseThere_sv (l : Launch) (dC : Nat → ClassId) (dI : Nat → Nat → Nat) (cI cZ cF : ClassId) (sz : Nat) (sh : Nat) (fa : Nat) (ft : Nat) (FA : Nat → Option Nat) (i : Nat) (fe : Nat) (lo : Nat) (rk9 : Int32) (wd9 : Int32) (tw9 : Int32) (pa9 : Int32) (pb9 : Int32) (lk : Nat) (kd9 : Int32) (st9 : Int32) (gb9 : Int32) (jt9 : Int32) (we9 : Int32) (fm9 : Value) (rw9 : Value) (h200 : ft ≤ 200) (hi : i < ft) (hFA : FA i = some fe) (hs1 : ¬ (st9.toInt = 1 ∧ kd9.toInt = 6)) : Met l yX8_houseThere (.code yX8_houseThere cX8_houseThere 3 (some (.object "ScaleShop$Row")) :: ws0) ({ frames := 2, cells := 0, slots := 0, locals := 43 } : Room) (va_Pc [.ref sh, .int (nI i)] (zPre (dC, dI) classes (zTy cI cZ cF) [(oc7 sh (.ref fa) (nI ft)), (oq fa cF 200 FA), (oc1 fe rk9 wd9 tw9 pa9 pb9 (.ref lo) (.ref lk) fm9), (oc4 lk kd9 st9 rw9 gb9 jt9 we9)] sz zXN)) (zQ (some (.null)) (fun t => va_P (dC, dI) classes [(oc7 sh (.ref fa) (nI ft)), (oq fa cF 200 FA), (oc1 fe rk9 wd9 tw9 pa9 pb9 (.ref lo) (.ref lk) fm9), (oc4 lk kd9 st9 rw9 gb9 jt9 we9)] t.heap ∧ va_D (va_A [(oc7 sh (.ref fa) (nI ft)), (oq fa cF 200 FA), (oc1 fe rk9 wd9 tw9 pa9 pb9 (.ref lo) (.ref lk) fm9), (oc4 lk kd9 st9 rw9 gb9 jt9 we9)] sz) [(oc7 sh (.ref fa) (nI ft)), (oq fa cF 200 FA), (oc1 fe rk9 wd9 tw9 pa9 pb9 (.ref lo) (.ref lk) fm9), (oc4 lk kd9 st9 rw9 gb9 jt9 we9)]) (va_A [(oc7 sh (.ref fa) (nI ft)), (oq fa cF 200 FA), (oc1 fe rk9 wd9 tw9 pa9 pb9 (.ref lo) (.ref lk) fm9), (oc4 lk kd9 st9 rw9 gb9 jt9 we9)] sz)) 0 0 (va_A [(oc7 sh (.ref fa) (nI ft)), (oq fa cF 200 FA), (oc1 fe rk9 wd9 tw9 pa9 pb9 (.ref lo) (.ref lk) fm9), (oc4 lk kd9 st9 rw9 gb9 jt9 we9)] sz) := by
  refine Met.ofW (cc := cX8_houseThere) (maxL := 3) (ret := (some (.object "ScaleShop$Row"))) rfl rfl ?_
  intro p e s m args below meth c s₁ B hml hv
  obtain ⟨rfl, hsz, hP, hK, hD0, hXN⟩ := hv
  have hx := B.exec
  have hb := B.bytes
  have hr := B.returns
  have hts0 := atoms_spec (ws := .code yX8_houseThere cX8_houseThere 3 (some (.object "ScaleShop$Row")) :: ws0) B.pre
  have hts : ∀ w9 ∈ ws0, w9.before ([.ref sh, .int (nI i)] : List Value).toArray s = true := fun w9 h => hts0 w9 (List.mem_cons_of_mem _ h)
  have hown : s.vm.findClass "ScaleShop$Sheet" = some m.cls := findClass_of_methodNamed B.named
  have hlocks := B.notSynchronized
  subst hsz
  have hD := hD0.self (sz := s.heap.size)
  clear hD0
  generalize hAe : va_A [(oc7 sh (.ref fa) (nI ft)), (oq fa cF 200 FA), (oc1 fe rk9 wd9 tw9 pa9 pb9 (.ref lo) (.ref lk) fm9), (oc4 lk kd9 st9 rw9 gb9 jt9 we9)] s.heap.size = A at hD ⊢
  have hA : ∀ q : Nat, s.heap.size ≤ q → A q := fun q h => by rw [← hAe]; exact Or.inr h
  clear hAe
  have hS : va_S A s.heap s.heap [] := va_S.rf
  have hP : va_P (dC, dI) classes [(oc7 sh (.ref fa) (nI ft)), (oq fa cF 200 FA), (oc1 fe rk9 wd9 tw9 pa9 pb9 (.ref lo) (.ref lk) fm9), (oc4 lk kd9 st9 rw9 gb9 jt9 we9)] s.heap := hP
  obtain ⟨Q9, hQ9⟩ : ∃ Q9 : State → Prop, Q9 = MQ below (zQ (some (.null)) (fun t => va_P (dC, dI) classes [(oc7 sh (.ref fa) (nI ft)), (oq fa cF 200 FA), (oc1 fe rk9 wd9 tw9 pa9 pb9 (.ref lo) (.ref lk) fm9), (oc4 lk kd9 st9 rw9 gb9 jt9 we9)] t.heap ∧ va_D A [(oc7 sh (.ref fa) (nI ft)), (oq fa cF 200 FA), (oc1 fe rk9 wd9 tw9 pa9 pb9 (.ref lo) (.ref lk) fm9), (oc4 lk kd9 st9 rw9 gb9 jt9 we9)]) A) ([.ref sh, .int (nI i)] : List Value).toArray s 0 0 A := ⟨_, rfl⟩
  rw [← hQ9]
  have hl := lv_entry ([.ref sh, .int (nI i)]) (n := 3) (Nat.le_of_ble_eq_true rfl)
  rw [lg_entry_eq]
  generalize (lg_sl ([.ref sh, .int (nI i)]) ++ List.replicate (3 - (lg_sl ([.ref sh, .int (nI i)])).length) Slot.unset).toArray = ls at hl ⊢
  have hl : lv_has ls 3 [(0, .ref sh), (1, .int (nI i))] := hl
  refine lv_aload_n hx hb dX8_houseThere_0 rfl (lv_at hl 0 rfl) ?_
  refine lv_iload_n hx hb dX8_houseThere_1 rfl (lv_at hl 1 rfl) ?_
  obtain ⟨hPc, hDc, hFc⟩ := zc_sub (wc := [(oc7 sh (.ref fa) (nI ft)), (oq fa cF 200 FA)]) hP hD hS hA [0, 1] rfl rfl
  refine zcall (st1 := [.ref fe]) (va_runV (As := [.int (nI i)]) (rest := []) ⟨hx, hb, hml, hown, hts⟩ (k_Sheet_find l dC dI cI cZ cF s.heap.size sh fa ft FA i fe (by first | with_reducible assumption | omega) (by first | with_reducible assumption | omega) (hFA)) (csV_36 hts rfl rfl ⟨Nat.le_of_ble_eq_true rfl, Nat.le_of_ble_eq_true rfl⟩) (zPV2 (q0 := 0) (ci := 7) hPc hDc hK hXN rfl rfl) rfl rfl hl.1 rfl (lv_room (Nat.le_of_ble_eq_true rfl)) dX8_houseThere_2 ⟨Nat.le_of_ble_eq_true rfl, Nat.le_of_ble_eq_true rfl⟩) hS hFc hFc rfl (fun t H locs ht hB hk1 hS => ?_)
  obtain ⟨hP1, hD1⟩ := hB
  rw [ht] at hP1
  obtain ⟨hP, hD⟩ := zk (W2 := [(oc7 sh (.ref fa) (nI ft)), (oq fa cF 200 FA), (oc1 fe rk9 wd9 tw9 pa9 pb9 (.ref lo) (.ref lk) fm9), (oc4 lk kd9 st9 rw9 gb9 jt9 we9)]) hP hD [0, 1] [2, 3] [2, 3] [0, 1] [2, 3, 0, 1] 4 rfl rfl rfl rfl rfl rfl rfl rfl rfl hk1 hFc hP1 hD1
  clear hk1 hPc hDc hFc hP1 hD1 ht
  refine lv_astore_n (lv' := [(2, .ref fe), (0, .ref sh), (1, .int (nI i))]) hx hb dX8_houseThere_5 rfl hl (Nat.le_of_ble_eq_true rfl) rfl (fun ls hl => ?_)
  refine lv_aload_n hx hb dX8_houseThere_6 rfl (lv_at hl 0 rfl) ?_
  refine lv_ifnull hx hb dX8_houseThere_7 ?_
  refine lv_aload_n hx hb dX8_houseThere_10 rfl (lv_at hl 0 rfl) ?_
  refine va_get (D := (dC, dI)) (ci := 1) (v := .ref lk) (C := RX2) (T := TX2) (N := 8) hx hb hts inX2 hown hK hP 2 rfl rfl 6 (Nat.le_of_ble_eq_true rfl) (hts _ mw_434) (fun _ h9 => h9) rfl dX8_houseThere_11 ?_
  refine va_get (D := (dC, dI)) (ci := 4) (v := .int kd9) (C := RX5) (T := TX5) (N := 6) hx hb hts inX5 hown hK hP 3 rfl rfl 0 (Nat.le_of_ble_eq_true rfl) (hts _ mw_383) (fun _ h9 => h9) rfl dX8_houseThere_14 ?_
  refine lv_bipush (v := 6) hx hb dX8_houseThere_17 rfl ?_
  refine lv_icmp_ne (tgt := 30) hx hb dX8_houseThere_19 rfl (fun c_1 => ?_) (fun c_1 => ?_)
  · have c_1 : ¬ kd9.toInt = 6 := zc_ne rfl rfl c_1
    refine lv_null hx hb dX8_houseThere_30 ?_
    obtain ⟨hP9, hD9⟩ := zq_sub (wc := [(oc7 sh (.ref fa) (nI ft)), (oq fa cF 200 FA), (oc1 fe rk9 wd9 tw9 pa9 pb9 (.ref lo) (.ref lk) fm9), (oc4 lk kd9 st9 rw9 gb9 jt9 we9)]) hP hD [0, 1, 2, 3] rfl rfl
    rw [hQ9]
    exact W.aret hx hb hr (Or.inl ⟨_, rfl⟩) (Or.inl rfl) (fun t ht hW => ⟨⟨rfl, by rw [ht]; exact hP9, hD9⟩, hS.F ht⟩) hS.2.2 dX8_houseThere_31
  · have c_1 : kd9.toInt = 6 := zc_eq rfl rfl c_1
    refine lv_aload_n hx hb dX8_houseThere_22 rfl (lv_at hl 1 rfl) ?_
    refine lv_iload_n hx hb dX8_houseThere_23 rfl (lv_at hl 2 rfl) ?_
    obtain ⟨hPc, hDc, hFc⟩ := zc_sub (wc := [(oc7 sh (.ref fa) (nI ft)), (oq fa cF 200 FA), (oc1 fe rk9 wd9 tw9 pa9 pb9 (.ref lo) (.ref lk) fm9), (oc4 lk kd9 st9 rw9 gb9 jt9 we9)]) hP hD hS hA [0, 1, 2, 3] rfl rfl
    refine zcall (st1 := [.null]) (va_runV (As := [.int (nI i)]) (rest := []) ⟨hx, hb, hml, hown, hts⟩ (k_Sheet_rowThere_sv l dC dI cI cZ cF H.size sh fa ft FA i fe lo rk9 wd9 tw9 pa9 pb9 lk kd9 st9 gb9 jt9 we9 fm9 rw9 (by first | with_reducible assumption | omega) (by first | with_reducible assumption | omega) (hFA) (by first | with_reducible assumption | omega)) (csV_37 hts rfl rfl ⟨Nat.le_of_ble_eq_true rfl, Nat.le_of_ble_eq_true rfl⟩) (zPV2 (q0 := 0) (ci := 7) hPc hDc hK hXN rfl rfl) rfl rfl hl.1 rfl (lv_room (Nat.le_of_ble_eq_true rfl)) dX8_houseThere_24 ⟨Nat.le_of_ble_eq_true rfl, Nat.le_of_ble_eq_true rfl⟩) hS hFc hFc rfl (fun t H locs ht hB hk1 hS => ?_)
    obtain ⟨hP1, hD1⟩ := hB
    rw [ht] at hP1
    obtain ⟨hP, hD⟩ := zk (W2 := [(oc7 sh (.ref fa) (nI ft)), (oq fa cF 200 FA), (oc1 fe rk9 wd9 tw9 pa9 pb9 (.ref lo) (.ref lk) fm9), (oc4 lk kd9 st9 rw9 gb9 jt9 we9)]) hP hD [0, 1, 2, 3] [] [] [0, 1, 2, 3] [0, 1, 2, 3] 4 rfl rfl rfl rfl rfl rfl rfl rfl rfl hk1 hFc hP1 hD1
    clear hk1 hPc hDc hFc hP1 hD1 ht
    refine lv_goto (tgt := 31) hx hb dX8_houseThere_27 rfl ?_
    obtain ⟨hP9, hD9⟩ := zq_sub (wc := [(oc7 sh (.ref fa) (nI ft)), (oq fa cF 200 FA), (oc1 fe rk9 wd9 tw9 pa9 pb9 (.ref lo) (.ref lk) fm9), (oc4 lk kd9 st9 rw9 gb9 jt9 we9)]) hP hD [0, 1, 2, 3] rfl rfl
    rw [hQ9]
    exact W.aret hx hb hr (Or.inl ⟨_, rfl⟩) (Or.inl rfl) (fun t ht hW => ⟨⟨rfl, by rw [ht]; exact hP9, hD9⟩, hS.F ht⟩) hS.2.2 dX8_houseThere_31
set_option maxHeartbeats 4000000 in
set_option maxRecDepth 100000 in
theorem k_Sheet_houseThere_tv (l : Launch) (dC : Nat → ClassId) (dI : Nat → Nat → Nat) (cI cZ cF : ClassId) (sz : Nat) (sh : Nat) (fa : Nat) (ft : Nat) (FA : Nat → Option Nat) (i : Nat) (fe : Nat) (lo : Nat) (rk9 : Int32) (wd9 : Int32) (tw9 : Int32) (pa9 : Int32) (pb9 : Int32) (lk : Nat) (kd9 : Int32) (st9 : Int32) (gb9 : Int32) (jt9 : Int32) (we9 : Int32) (fm9 : Value) (h200 : ft ≤ 200) (hi : i < ft) (hFA : FA i = some fe) : Met l yX8_houseThere (.code yX8_houseThere cX8_houseThere 3 (some (.object "ScaleShop$Row")) :: ws0) ({ frames := 2, cells := 0, slots := 0, locals := 43 } : Room) (va_Pc [.ref sh, .int (nI i)] (zPre (dC, dI) classes (zTy cI cZ cF) [(oc7 sh (.ref fa) (nI ft)), (oq fa cF 200 FA), (oc1 fe rk9 wd9 tw9 pa9 pb9 (.ref lo) (.ref lk) fm9), (oc4 lk kd9 st9 .null gb9 jt9 we9)] sz zXN)) (zQ (some (.null)) (fun t => va_P (dC, dI) classes [(oc7 sh (.ref fa) (nI ft)), (oq fa cF 200 FA), (oc1 fe rk9 wd9 tw9 pa9 pb9 (.ref lo) (.ref lk) fm9), (oc4 lk kd9 st9 .null gb9 jt9 we9)] t.heap ∧ va_D (va_A [(oc7 sh (.ref fa) (nI ft)), (oq fa cF 200 FA), (oc1 fe rk9 wd9 tw9 pa9 pb9 (.ref lo) (.ref lk) fm9), (oc4 lk kd9 st9 .null gb9 jt9 we9)] sz) [(oc7 sh (.ref fa) (nI ft)), (oq fa cF 200 FA), (oc1 fe rk9 wd9 tw9 pa9 pb9 (.ref lo) (.ref lk) fm9), (oc4 lk kd9 st9 .null gb9 jt9 we9)]) (va_A [(oc7 sh (.ref fa) (nI ft)), (oq fa cF 200 FA), (oc1 fe rk9 wd9 tw9 pa9 pb9 (.ref lo) (.ref lk) fm9), (oc4 lk kd9 st9 .null gb9 jt9 we9)] sz)) 0 0 (va_A [(oc7 sh (.ref fa) (nI ft)), (oq fa cF 200 FA), (oc1 fe rk9 wd9 tw9 pa9 pb9 (.ref lo) (.ref lk) fm9), (oc4 lk kd9 st9 .null gb9 jt9 we9)] sz) := by
  refine Met.ofW (cc := cX8_houseThere) (maxL := 3) (ret := (some (.object "ScaleShop$Row"))) rfl rfl ?_
  intro p e s m args below meth c s₁ B hml hv
  obtain ⟨rfl, hsz, hP, hK, hD0, hXN⟩ := hv
  have hx := B.exec
  have hb := B.bytes
  have hr := B.returns
  have hts0 := atoms_spec (ws := .code yX8_houseThere cX8_houseThere 3 (some (.object "ScaleShop$Row")) :: ws0) B.pre
  have hts : ∀ w9 ∈ ws0, w9.before ([.ref sh, .int (nI i)] : List Value).toArray s = true := fun w9 h => hts0 w9 (List.mem_cons_of_mem _ h)
  have hown : s.vm.findClass "ScaleShop$Sheet" = some m.cls := findClass_of_methodNamed B.named
  have hlocks := B.notSynchronized
  subst hsz
  have hD := hD0.self (sz := s.heap.size)
  clear hD0
  generalize hAe : va_A [(oc7 sh (.ref fa) (nI ft)), (oq fa cF 200 FA), (oc1 fe rk9 wd9 tw9 pa9 pb9 (.ref lo) (.ref lk) fm9), (oc4 lk kd9 st9 .null gb9 jt9 we9)] s.heap.size = A at hD ⊢
  have hA : ∀ q : Nat, s.heap.size ≤ q → A q := fun q h => by rw [← hAe]; exact Or.inr h
  clear hAe
  have hS : va_S A s.heap s.heap [] := va_S.rf
  have hP : va_P (dC, dI) classes [(oc7 sh (.ref fa) (nI ft)), (oq fa cF 200 FA), (oc1 fe rk9 wd9 tw9 pa9 pb9 (.ref lo) (.ref lk) fm9), (oc4 lk kd9 st9 .null gb9 jt9 we9)] s.heap := hP
  obtain ⟨Q9, hQ9⟩ : ∃ Q9 : State → Prop, Q9 = MQ below (zQ (some (.null)) (fun t => va_P (dC, dI) classes [(oc7 sh (.ref fa) (nI ft)), (oq fa cF 200 FA), (oc1 fe rk9 wd9 tw9 pa9 pb9 (.ref lo) (.ref lk) fm9), (oc4 lk kd9 st9 .null gb9 jt9 we9)] t.heap ∧ va_D A [(oc7 sh (.ref fa) (nI ft)), (oq fa cF 200 FA), (oc1 fe rk9 wd9 tw9 pa9 pb9 (.ref lo) (.ref lk) fm9), (oc4 lk kd9 st9 .null gb9 jt9 we9)]) A) ([.ref sh, .int (nI i)] : List Value).toArray s 0 0 A := ⟨_, rfl⟩
  rw [← hQ9]
  have hl := lv_entry ([.ref sh, .int (nI i)]) (n := 3) (Nat.le_of_ble_eq_true rfl)
  rw [lg_entry_eq]
  generalize (lg_sl ([.ref sh, .int (nI i)]) ++ List.replicate (3 - (lg_sl ([.ref sh, .int (nI i)])).length) Slot.unset).toArray = ls at hl ⊢
  have hl : lv_has ls 3 [(0, .ref sh), (1, .int (nI i))] := hl
  refine lv_aload_n hx hb dX8_houseThere_0 rfl (lv_at hl 0 rfl) ?_
  refine lv_iload_n hx hb dX8_houseThere_1 rfl (lv_at hl 1 rfl) ?_
  obtain ⟨hPc, hDc, hFc⟩ := zc_sub (wc := [(oc7 sh (.ref fa) (nI ft)), (oq fa cF 200 FA)]) hP hD hS hA [0, 1] rfl rfl
  refine zcall (st1 := [.ref fe]) (va_runV (As := [.int (nI i)]) (rest := []) ⟨hx, hb, hml, hown, hts⟩ (k_Sheet_find l dC dI cI cZ cF s.heap.size sh fa ft FA i fe (by first | with_reducible assumption | omega) (by first | with_reducible assumption | omega) (hFA)) (csV_36 hts rfl rfl ⟨Nat.le_of_ble_eq_true rfl, Nat.le_of_ble_eq_true rfl⟩) (zPV2 (q0 := 0) (ci := 7) hPc hDc hK hXN rfl rfl) rfl rfl hl.1 rfl (lv_room (Nat.le_of_ble_eq_true rfl)) dX8_houseThere_2 ⟨Nat.le_of_ble_eq_true rfl, Nat.le_of_ble_eq_true rfl⟩) hS hFc hFc rfl (fun t H locs ht hB hk1 hS => ?_)
  obtain ⟨hP1, hD1⟩ := hB
  rw [ht] at hP1
  obtain ⟨hP, hD⟩ := zk (W2 := [(oc7 sh (.ref fa) (nI ft)), (oq fa cF 200 FA), (oc1 fe rk9 wd9 tw9 pa9 pb9 (.ref lo) (.ref lk) fm9), (oc4 lk kd9 st9 .null gb9 jt9 we9)]) hP hD [0, 1] [2, 3] [2, 3] [0, 1] [2, 3, 0, 1] 4 rfl rfl rfl rfl rfl rfl rfl rfl rfl hk1 hFc hP1 hD1
  clear hk1 hPc hDc hFc hP1 hD1 ht
  refine lv_astore_n (lv' := [(2, .ref fe), (0, .ref sh), (1, .int (nI i))]) hx hb dX8_houseThere_5 rfl hl (Nat.le_of_ble_eq_true rfl) rfl (fun ls hl => ?_)
  refine lv_aload_n hx hb dX8_houseThere_6 rfl (lv_at hl 0 rfl) ?_
  refine lv_ifnull hx hb dX8_houseThere_7 ?_
  refine lv_aload_n hx hb dX8_houseThere_10 rfl (lv_at hl 0 rfl) ?_
  refine va_get (D := (dC, dI)) (ci := 1) (v := .ref lk) (C := RX2) (T := TX2) (N := 8) hx hb hts inX2 hown hK hP 2 rfl rfl 6 (Nat.le_of_ble_eq_true rfl) (hts _ mw_434) (fun _ h9 => h9) rfl dX8_houseThere_11 ?_
  refine va_get (D := (dC, dI)) (ci := 4) (v := .int kd9) (C := RX5) (T := TX5) (N := 6) hx hb hts inX5 hown hK hP 3 rfl rfl 0 (Nat.le_of_ble_eq_true rfl) (hts _ mw_383) (fun _ h9 => h9) rfl dX8_houseThere_14 ?_
  refine lv_bipush (v := 6) hx hb dX8_houseThere_17 rfl ?_
  refine lv_icmp_ne (tgt := 30) hx hb dX8_houseThere_19 rfl (fun c_1 => ?_) (fun c_1 => ?_)
  · have c_1 : ¬ kd9.toInt = 6 := zc_ne rfl rfl c_1
    refine lv_null hx hb dX8_houseThere_30 ?_
    obtain ⟨hP9, hD9⟩ := zq_sub (wc := [(oc7 sh (.ref fa) (nI ft)), (oq fa cF 200 FA), (oc1 fe rk9 wd9 tw9 pa9 pb9 (.ref lo) (.ref lk) fm9), (oc4 lk kd9 st9 .null gb9 jt9 we9)]) hP hD [0, 1, 2, 3] rfl rfl
    rw [hQ9]
    exact W.aret hx hb hr (Or.inl ⟨_, rfl⟩) (Or.inl rfl) (fun t ht hW => ⟨⟨rfl, by rw [ht]; exact hP9, hD9⟩, hS.F ht⟩) hS.2.2 dX8_houseThere_31
  · have c_1 : kd9.toInt = 6 := zc_eq rfl rfl c_1
    refine lv_aload_n hx hb dX8_houseThere_22 rfl (lv_at hl 1 rfl) ?_
    refine lv_iload_n hx hb dX8_houseThere_23 rfl (lv_at hl 2 rfl) ?_
    obtain ⟨hPc, hDc, hFc⟩ := zc_sub (wc := [(oc7 sh (.ref fa) (nI ft)), (oq fa cF 200 FA), (oc1 fe rk9 wd9 tw9 pa9 pb9 (.ref lo) (.ref lk) fm9), (oc4 lk kd9 st9 .null gb9 jt9 we9)]) hP hD hS hA [0, 1, 2, 3] rfl rfl
    refine zcall (st1 := [.null]) (va_runV (As := [.int (nI i)]) (rest := []) ⟨hx, hb, hml, hown, hts⟩ (k_Sheet_rowThere_tv l dC dI cI cZ cF H.size sh fa ft FA i fe lo rk9 wd9 tw9 pa9 pb9 lk kd9 st9 gb9 jt9 we9 fm9 (by first | with_reducible assumption | omega) (by first | with_reducible assumption | omega) (hFA)) (csV_37 hts rfl rfl ⟨Nat.le_of_ble_eq_true rfl, Nat.le_of_ble_eq_true rfl⟩) (zPV2 (q0 := 0) (ci := 7) hPc hDc hK hXN rfl rfl) rfl rfl hl.1 rfl (lv_room (Nat.le_of_ble_eq_true rfl)) dX8_houseThere_24 ⟨Nat.le_of_ble_eq_true rfl, Nat.le_of_ble_eq_true rfl⟩) hS hFc hFc rfl (fun t H locs ht hB hk1 hS => ?_)
    obtain ⟨hP1, hD1⟩ := hB
    rw [ht] at hP1
    obtain ⟨hP, hD⟩ := zk (W2 := [(oc7 sh (.ref fa) (nI ft)), (oq fa cF 200 FA), (oc1 fe rk9 wd9 tw9 pa9 pb9 (.ref lo) (.ref lk) fm9), (oc4 lk kd9 st9 .null gb9 jt9 we9)]) hP hD [0, 1, 2, 3] [] [] [0, 1, 2, 3] [0, 1, 2, 3] 4 rfl rfl rfl rfl rfl rfl rfl rfl rfl hk1 hFc hP1 hD1
    clear hk1 hPc hDc hFc hP1 hD1 ht
    refine lv_goto (tgt := 31) hx hb dX8_houseThere_27 rfl ?_
    obtain ⟨hP9, hD9⟩ := zq_sub (wc := [(oc7 sh (.ref fa) (nI ft)), (oq fa cF 200 FA), (oc1 fe rk9 wd9 tw9 pa9 pb9 (.ref lo) (.ref lk) fm9), (oc4 lk kd9 st9 .null gb9 jt9 we9)]) hP hD [0, 1, 2, 3] rfl rfl
    rw [hQ9]
    exact W.aret hx hb hr (Or.inl ⟨_, rfl⟩) (Or.inl rfl) (fun t ht hW => ⟨⟨rfl, by rw [ht]; exact hP9, hD9⟩, hS.F ht⟩) hS.2.2 dX8_houseThere_31
set_option maxHeartbeats 4000000 in
set_option maxRecDepth 100000 in
theorem k_isSmallHouse (l : Launch) (dC : Nat → ClassId) (dI : Nat → Nat → Nat) (cI cZ cF : ClassId) (sz : Nat) (x : Nat) (sh : Nat) (lw : Nat) (ro : Nat) (bq : Nat) (bp : Nat) (dq : Nat) (dp : Nat) (lv : Nat) (sl : Nat) (sd : Int32) (ul : Int32) (su : Int32) (ds : Int32) (fa : Nat) (ft : Nat) (FA : Nat → Option Nat) (i9 : Nat) (le9 : Int32) (L : List Nat) (f : Nat → va_E) (kd : Nat → Int32) (st : Nat → Int32) (tn : Nat → Int32) (mn : Nat → Int32) (cx : Nat → Int32) (cy : Nat → Int32) (rk : Nat → Int32) (wd : Nat → Int32) (tw : Nat → Int32) (pa : Nat → Int32) (pb : Nat → Int32) (gb : Nat → Int32) (it : Nat → Int32) (h200 : ft ≤ 200) (hi9 : i9 < ft) (hva : ∀ q, q < ft → vwA cI L f FA rk wd tw pa pb kd st gb it tn mn cx cy q) (hok : okA ft st tn kd mn cx cy) : Met l yX10_isSmallHouse (.code yX10_isSmallHouse cX10_isSmallHouse 4 (some .boolean) :: ws0) ({ frames := 3, cells := 0, slots := 0, locals := 65 } : Room) (va_Pc [.ref x, .int (nI i9), .int le9] (zPre (dC, dI) classes (zTy cI cZ cF) ([(oc8 x (.ref sh) (.ref lw) (.ref ro) (.ref bq) (.ref bp) (.ref dq) (.ref dp) (.ref lv) (.ref sl) ds sd ul su), (oc7 sh (.ref fa) (nI ft)), (oq fa cF 200 FA)] ++ va_pl L f) sz zXN)) (zQ (some (.int (pI (smF ft st tn kd mn cx cy le9.toInt i9)))) (fun t => va_P (dC, dI) classes ([(oc8 x (.ref sh) (.ref lw) (.ref ro) (.ref bq) (.ref bp) (.ref dq) (.ref dp) (.ref lv) (.ref sl) ds sd ul su), (oc7 sh (.ref fa) (nI ft)), (oq fa cF 200 FA)] ++ va_pl L f) t.heap ∧ va_D (va_A ([(oc8 x (.ref sh) (.ref lw) (.ref ro) (.ref bq) (.ref bp) (.ref dq) (.ref dp) (.ref lv) (.ref sl) ds sd ul su), (oc7 sh (.ref fa) (nI ft)), (oq fa cF 200 FA)] ++ va_pl L f) sz) ([(oc8 x (.ref sh) (.ref lw) (.ref ro) (.ref bq) (.ref bp) (.ref dq) (.ref dp) (.ref lv) (.ref sl) ds sd ul su), (oc7 sh (.ref fa) (nI ft)), (oq fa cF 200 FA)] ++ va_pl L f)) (va_A ([(oc8 x (.ref sh) (.ref lw) (.ref ro) (.ref bq) (.ref bp) (.ref dq) (.ref dp) (.ref lv) (.ref sl) ds sd ul su), (oc7 sh (.ref fa) (nI ft)), (oq fa cF 200 FA)] ++ va_pl L f) sz)) 0 0 (va_A ([(oc8 x (.ref sh) (.ref lw) (.ref ro) (.ref bq) (.ref bp) (.ref dq) (.ref dp) (.ref lv) (.ref sl) ds sd ul su), (oc7 sh (.ref fa) (nI ft)), (oq fa cF 200 FA)] ++ va_pl L f) sz) := by
  refine Met.ofW (cc := cX10_isSmallHouse) (maxL := 4) (ret := (some .boolean)) rfl rfl ?_
  intro p e s m args below meth c s₁ B hml hv
  obtain ⟨rfl, hsz, hP, hK, hD0, hXN⟩ := hv
  have hx := B.exec
  have hb := B.bytes
  have hr := B.returns
  have hts0 := atoms_spec (ws := .code yX10_isSmallHouse cX10_isSmallHouse 4 (some .boolean) :: ws0) B.pre
  have hts : ∀ w9 ∈ ws0, w9.before ([.ref x, .int (nI i9), .int le9] : List Value).toArray s = true := fun w9 h => hts0 w9 (List.mem_cons_of_mem _ h)
  have hown : s.vm.findClass "ScaleShop" = some m.cls := findClass_of_methodNamed B.named
  have hlocks := B.notSynchronized
  subst hsz
  have hD := hD0.self (sz := s.heap.size)
  clear hD0
  generalize hAe : va_A ([(oc8 x (.ref sh) (.ref lw) (.ref ro) (.ref bq) (.ref bp) (.ref dq) (.ref dp) (.ref lv) (.ref sl) ds sd ul su), (oc7 sh (.ref fa) (nI ft)), (oq fa cF 200 FA)] ++ va_pl L f) s.heap.size = A at hD ⊢
  have hA : ∀ q : Nat, s.heap.size ≤ q → A q := fun q h => by rw [← hAe]; exact Or.inr h
  clear hAe
  have hS : va_S A s.heap s.heap [] := va_S.rf
  have hP : va_P (dC, dI) classes ([(oc8 x (.ref sh) (.ref lw) (.ref ro) (.ref bq) (.ref bp) (.ref dq) (.ref dp) (.ref lv) (.ref sl) ds sd ul su), (oc7 sh (.ref fa) (nI ft)), (oq fa cF 200 FA)] ++ va_pl L f) s.heap := hP
  obtain ⟨Q9, hQ9⟩ : ∃ Q9 : State → Prop, Q9 = MQ below (zQ (some (.int (pI (smF ft st tn kd mn cx cy le9.toInt i9)))) (fun t => va_P (dC, dI) classes ([(oc8 x (.ref sh) (.ref lw) (.ref ro) (.ref bq) (.ref bp) (.ref dq) (.ref dp) (.ref lv) (.ref sl) ds sd ul su), (oc7 sh (.ref fa) (nI ft)), (oq fa cF 200 FA)] ++ va_pl L f) t.heap ∧ va_D A ([(oc8 x (.ref sh) (.ref lw) (.ref ro) (.ref bq) (.ref bp) (.ref dq) (.ref dp) (.ref lv) (.ref sl) ds sd ul su), (oc7 sh (.ref fa) (nI ft)), (oq fa cF 200 FA)] ++ va_pl L f)) A) ([.ref x, .int (nI i9), .int le9] : List Value).toArray s 0 0 A := ⟨_, rfl⟩
  rw [← hQ9]
  have hl := lv_entry ([.ref x, .int (nI i9), .int le9]) (n := 4) (Nat.le_of_ble_eq_true rfl)
  rw [lg_entry_eq]
  generalize (lg_sl ([.ref x, .int (nI i9), .int le9]) ++ List.replicate (4 - (lg_sl ([.ref x, .int (nI i9), .int le9])).length) Slot.unset).toArray = ls at hl ⊢
  have hl : lv_has ls 4 [(0, .ref x), (1, .int (nI i9)), (2, .int le9)] := hl
  rcases vwA_3 (P9 := ((st i9).toInt = 1 ∧ (kd i9).toInt = 6)) (hva i9 (by omega)) with ⟨ht2, fe2, lk2, lo2, we2, fm2, hFA2, hfe2, hlk2⟩ | ⟨ht2, hA2, fe2, lk2, lo2, we2, fm2, r2, rx2, ry2, cap2, U2, V2, rg2, hFA2, hfe2, hlk2, ⟨hr2, hrx2, hry2, hne2⟩, hrr2⟩ | ⟨ht2, hA2, fe2, lk2, lo2, we2, fm2, r2, rx2, ry2, cap2, U2, V2, rg2, hFA2, hfe2, hlk2, ⟨hr2, hrx2, hry2, hne2⟩, hrr2⟩
  · skip
    have hc9_1 : inPl L f [(oc1 fe2 (rk i9) (wd i9) (tw i9) (pa i9) (pb i9) (.ref lo2) (.ref lk2) fm2), (oc4 lk2 (kd i9) (st i9) .null (gb i9) (it i9) we2)] := ⟨hfe2, hlk2, trivial⟩
    have hD0_1 := hD
    obtain ⟨hP, hD⟩ := pl_out hP hD [(oc1 fe2 (rk i9) (wd i9) (tw i9) (pa i9) (pb i9) (.ref lo2) (.ref lk2) fm2), (oc4 lk2 (kd i9) (st i9) .null (gb i9) (it i9) we2)] hc9_1 (pwF hfe2.2 hlk2.2)
    generalize hT_1 : outPl L [(oc1 fe2 (rk i9) (wd i9) (tw i9) (pa i9) (pb i9) (.ref lo2) (.ref lk2) fm2), (oc4 lk2 (kd i9) (st i9) .null (gb i9) (it i9) we2)] = T_1 at hP hD
    obtain ⟨hP, hD⟩ : zPD (dC, dI) classes A ([(oc8 x (.ref sh) (.ref lw) (.ref ro) (.ref bq) (.ref bp) (.ref dq) (.ref dp) (.ref lv) (.ref sl) ds sd ul su), (oc7 sh (.ref fa) (nI ft)), (oq fa cF 200 FA), (oc1 fe2 (rk i9) (wd i9) (tw i9) (pa i9) (pb i9) (.ref lo2) (.ref lk2) fm2), (oc4 lk2 (kd i9) (st i9) .null (gb i9) (it i9) we2)] ++ va_pl T_1 f) s.heap := ⟨hP, hD⟩
    refine lv_aload_n hx hb dX10_isSmallHouse_0 rfl (lv_at hl 0 rfl) ?_
    refine va_get (D := (dC, dI)) (ci := 8) (v := .ref sh) (C := RX10) (T := TX10) (N := 13) hx hb hts inX10 hown hK hP 0 rfl rfl 0 (Nat.le_of_ble_eq_true rfl) (hts _ mw_309) (fun _ h9 => h9) rfl dX10_isSmallHouse_1 ?_
    refine lv_iload_n hx hb dX10_isSmallHouse_4 rfl (lv_at hl 1 rfl) ?_
    obtain ⟨hPc, hDc, hFc⟩ := zc_sub (wc := [(oc7 sh (.ref fa) (nI ft)), (oq fa cF 200 FA), (oc1 fe2 (rk i9) (wd i9) (tw i9) (pa i9) (pb i9) (.ref lo2) (.ref lk2) fm2), (oc4 lk2 (kd i9) (st i9) .null (gb i9) (it i9) we2)]) hP hD hS hA [1, 2, 3, 4] rfl rfl
    refine zcall (st1 := [.null]) (va_runV (As := [.int (nI i9)]) (rest := []) ⟨hx, hb, hml, hown, hts⟩ (k_Sheet_houseThere_tv l dC dI cI cZ cF s.heap.size sh fa ft FA i9 fe2 lo2 (rk i9) (wd i9) (tw i9) (pa i9) (pb i9) lk2 (kd i9) (st i9) (gb i9) (it i9) we2 fm2 (by first | with_reducible assumption | omega) (by first | with_reducible assumption | omega) (hFA2)) (csV_122 hts rfl rfl ⟨Nat.le_of_ble_eq_true rfl, Nat.le_of_ble_eq_true rfl⟩) (zPV2 (q0 := 0) (ci := 7) hPc hDc hK hXN rfl rfl) rfl rfl hl.1 rfl (lv_room (Nat.le_of_ble_eq_true rfl)) dX10_isSmallHouse_5 ⟨Nat.le_of_ble_eq_true rfl, Nat.le_of_ble_eq_true rfl⟩) hS hFc hFc rfl (fun t H locs ht hB hk1 hS => ?_)
    obtain ⟨hP1, hD1⟩ := hB
    rw [ht] at hP1
    obtain ⟨hP, hD⟩ := zkQ (W2 := [(oc8 x (.ref sh) (.ref lw) (.ref ro) (.ref bq) (.ref bp) (.ref dq) (.ref dp) (.ref lv) (.ref sl) ds sd ul su), (oc7 sh (.ref fa) (nI ft)), (oq fa cF 200 FA), (oc1 fe2 (rk i9) (wd i9) (tw i9) (pa i9) (pb i9) (.ref lo2) (.ref lk2) fm2), (oc4 lk2 (kd i9) (st i9) .null (gb i9) (it i9) we2)]) hP hD [1, 2, 3, 4] [0] [0] [1, 2, 3, 4] [0, 1, 2, 3, 4] 5 rfl rfl rfl rfl rfl rfl rfl rfl rfl hk1 hFc hP1 hD1
    clear hk1 hPc hDc hFc hP1 hD1 ht
    refine lv_astore_nN (lv' := [(3, .null), (0, .ref x), (1, .int (nI i9)), (2, .int le9)]) hx hb dX10_isSmallHouse_8 rfl hl (Nat.le_of_ble_eq_true rfl) rfl (fun ls hl => ?_)
    refine lv_aload_nN hx hb dX10_isSmallHouse_9 rfl (lv_at hl 0 rfl) ?_
    refine lv_ifnullN (tgt := 25) hx hb dX10_isSmallHouse_10 rfl ?_
    refine lv_iconst (v := 0) hx hb dX10_isSmallHouse_25 rfl ?_
    have hP := pl_back (cs := [(oc1 fe2 (rk i9) (wd i9) (tw i9) (pa i9) (pb i9) (.ref lo2) (.ref lk2) fm2), (oc4 lk2 (kd i9) (st i9) .null (gb i9) (it i9) we2)]) (L := L) (f := f) (X := [(oc8 x (.ref sh) (.ref lw) (.ref ro) (.ref bq) (.ref bp) (.ref dq) (.ref dp) (.ref lv) (.ref sl) ds sd ul su), (oc7 sh (.ref fa) (nI ft)), (oq fa cF 200 FA)]) (by rw [hT_1]; exact (show va_P (dC, dI) classes (([(oc8 x (.ref sh) (.ref lw) (.ref ro) (.ref bq) (.ref bp) (.ref dq) (.ref dp) (.ref lv) (.ref sl) ds sd ul su), (oc7 sh (.ref fa) (nI ft)), (oq fa cF 200 FA)] ++ [(oc1 fe2 (rk i9) (wd i9) (tw i9) (pa i9) (pb i9) (.ref lo2) (.ref lk2) fm2), (oc4 lk2 (kd i9) (st i9) .null (gb i9) (it i9) we2)]) ++ va_pl T_1 f) H from hP)) hc9_1
    have hD : va_D A ([(oc8 x (.ref sh) (.ref lw) (.ref ro) (.ref bq) (.ref bp) (.ref dq) (.ref dp) (.ref lv) (.ref sl) ds sd ul su), (oc7 sh (.ref fa) (nI ft)), (oq fa cF 200 FA)] ++ va_pl L f) := vaD_ae hD0_1 rfl
    obtain ⟨hP9, hD9⟩ := zq_part (cx := [(oc8 x (.ref sh) (.ref lw) (.ref ro) (.ref bq) (.ref bp) (.ref dq) (.ref dp) (.ref lv) (.ref sl) ds sd ul su), (oc7 sh (.ref fa) (nI ft)), (oq fa cF 200 FA)]) hP hD [0, 1, 2] rfl rfl
    rw [hQ9]
    exact W.zret (ty := .boolean) (v := 0) hx hb hr (rfl) (fun t ht hW => ⟨⟨congrArg (fun z => Outcome.returned (some (Value.int z))) (show (0 : Int32) = pI (smF ft st tn kd mn cx cy le9.toInt i9) from (zp_f (by first | exact ⟨hlv2, hA2.2, by have e9 := ar2_cg hrr2.2.2.2.2 _ (Nat.le_refl _); unfold arF; rw [← e9]; omega⟩ | exact fun h => by first | exact absurd h.1.2.2 ht2 | exact absurd ⟨h.1.2.1, h.2.1⟩ hA2 | (have e9 := ar2_cg hrr2.2.2.2.2 _ (Nat.le_refl _); have h9 := h.2.2; unfold arF at h9; rw [← e9] at h9; omega))).symm), by rw [ht]; exact hP9, hD9⟩, hS.F ht⟩) hS.2.2 dX10_isSmallHouse_26
  · skip
    have hcap2 := hrr2.1
    have hcap3 := hrr2.2.1
    have hlv2 : lvF ft st tn i9 := ⟨by omega, hA2.1, ht2⟩
    have hw2 := (hok i9 hlv2).1
    have hq2 := rw_pls hrr2 hw2
    have hn2 := hw2.2.1
    have hab2 := ar2B hq2 _ (Nat.le_refl _)
    have hc9_1 : inPl L f [(oc1 fe2 (rk i9) (wd i9) (tw i9) (pa i9) (pb i9) (.ref lo2) (.ref lk2) fm2), (oc4 lk2 (kd i9) (st i9) (.ref r2) (gb i9) (it i9) we2), (oc6 r2 (.ref rx2) (.ref ry2) (nI (nN (mn i9))) rg2), (oa rx2 cI cap2 U2), (oa ry2 cI cap2 V2)] := ⟨hfe2, hlk2, hr2, hrx2, hry2, trivial⟩
    have hD0_1 := hD
    obtain ⟨hP, hD⟩ := pl_out hP hD [(oc1 fe2 (rk i9) (wd i9) (tw i9) (pa i9) (pb i9) (.ref lo2) (.ref lk2) fm2), (oc4 lk2 (kd i9) (st i9) (.ref r2) (gb i9) (it i9) we2), (oc6 r2 (.ref rx2) (.ref ry2) (nI (nN (mn i9))) rg2), (oa rx2 cI cap2 U2), (oa ry2 cI cap2 V2)] hc9_1 (pwR hfe2.2 hlk2.2 hr2.2 hrx2.2 hry2.2 hne2)
    generalize hT_1 : outPl L [(oc1 fe2 (rk i9) (wd i9) (tw i9) (pa i9) (pb i9) (.ref lo2) (.ref lk2) fm2), (oc4 lk2 (kd i9) (st i9) (.ref r2) (gb i9) (it i9) we2), (oc6 r2 (.ref rx2) (.ref ry2) (nI (nN (mn i9))) rg2), (oa rx2 cI cap2 U2), (oa ry2 cI cap2 V2)] = T_1 at hP hD
    obtain ⟨hP, hD⟩ : zPD (dC, dI) classes A ([(oc8 x (.ref sh) (.ref lw) (.ref ro) (.ref bq) (.ref bp) (.ref dq) (.ref dp) (.ref lv) (.ref sl) ds sd ul su), (oc7 sh (.ref fa) (nI ft)), (oq fa cF 200 FA), (oc1 fe2 (rk i9) (wd i9) (tw i9) (pa i9) (pb i9) (.ref lo2) (.ref lk2) fm2), (oc4 lk2 (kd i9) (st i9) (.ref r2) (gb i9) (it i9) we2), (oc6 r2 (.ref rx2) (.ref ry2) (nI (nN (mn i9))) rg2), (oa rx2 cI cap2 U2), (oa ry2 cI cap2 V2)] ++ va_pl T_1 f) s.heap := ⟨hP, hD⟩
    refine lv_aload_n hx hb dX10_isSmallHouse_0 rfl (lv_at hl 0 rfl) ?_
    refine va_get (D := (dC, dI)) (ci := 8) (v := .ref sh) (C := RX10) (T := TX10) (N := 13) hx hb hts inX10 hown hK hP 0 rfl rfl 0 (Nat.le_of_ble_eq_true rfl) (hts _ mw_309) (fun _ h9 => h9) rfl dX10_isSmallHouse_1 ?_
    refine lv_iload_n hx hb dX10_isSmallHouse_4 rfl (lv_at hl 1 rfl) ?_
    obtain ⟨hPc, hDc, hFc⟩ := zc_sub (wc := [(oc7 sh (.ref fa) (nI ft)), (oq fa cF 200 FA), (oc1 fe2 (rk i9) (wd i9) (tw i9) (pa i9) (pb i9) (.ref lo2) (.ref lk2) fm2), (oc4 lk2 (kd i9) (st i9) (.ref r2) (gb i9) (it i9) we2)]) hP hD hS hA [1, 2, 3, 4] rfl rfl
    refine zcall (st1 := [.ref r2]) (va_runV (As := [.int (nI i9)]) (rest := []) ⟨hx, hb, hml, hown, hts⟩ (k_Sheet_houseThere_yv l dC dI cI cZ cF s.heap.size sh fa ft FA i9 fe2 lo2 (rk i9) (wd i9) (tw i9) (pa i9) (pb i9) lk2 (kd i9) (st i9) (gb i9) (it i9) we2 r2 fm2 (by first | with_reducible assumption | omega) (by first | with_reducible assumption | omega) (hFA2) (by first | exact hA2.1 | exact hA2) (hA2.2)) (csV_122 hts rfl rfl ⟨Nat.le_of_ble_eq_true rfl, Nat.le_of_ble_eq_true rfl⟩) (zPV2 (q0 := 0) (ci := 7) hPc hDc hK hXN rfl rfl) rfl rfl hl.1 rfl (lv_room (Nat.le_of_ble_eq_true rfl)) dX10_isSmallHouse_5 ⟨Nat.le_of_ble_eq_true rfl, Nat.le_of_ble_eq_true rfl⟩) hS hFc hFc rfl (fun t H locs ht hB hk1 hS => ?_)
    obtain ⟨hP1, hD1⟩ := hB
    rw [ht] at hP1
    obtain ⟨hP, hD⟩ := zkQ (W2 := [(oc8 x (.ref sh) (.ref lw) (.ref ro) (.ref bq) (.ref bp) (.ref dq) (.ref dp) (.ref lv) (.ref sl) ds sd ul su), (oc7 sh (.ref fa) (nI ft)), (oq fa cF 200 FA), (oc1 fe2 (rk i9) (wd i9) (tw i9) (pa i9) (pb i9) (.ref lo2) (.ref lk2) fm2), (oc4 lk2 (kd i9) (st i9) (.ref r2) (gb i9) (it i9) we2), (oc6 r2 (.ref rx2) (.ref ry2) (nI (nN (mn i9))) rg2), (oa rx2 cI cap2 U2), (oa ry2 cI cap2 V2)]) hP hD [1, 2, 3, 4] [0, 5, 6, 7] [0, 5, 6, 7] [1, 2, 3, 4] [0, 4, 5, 6, 7, 1, 2, 3] 8 rfl rfl rfl rfl rfl rfl rfl rfl rfl hk1 hFc hP1 hD1
    clear hk1 hPc hDc hFc hP1 hD1 ht
    refine lv_astore_n (lv' := [(3, .ref r2), (0, .ref x), (1, .int (nI i9)), (2, .int le9)]) hx hb dX10_isSmallHouse_8 rfl hl (Nat.le_of_ble_eq_true rfl) rfl (fun ls hl => ?_)
    refine lv_aload_n hx hb dX10_isSmallHouse_9 rfl (lv_at hl 0 rfl) ?_
    refine lv_ifnull hx hb dX10_isSmallHouse_10 ?_
    refine lv_aload_n hx hb dX10_isSmallHouse_13 rfl (lv_at hl 0 rfl) ?_
    obtain ⟨hPc, hDc, hFc⟩ := zc_sub (wc := [(oc6 r2 (.ref rx2) (.ref ry2) (nI (nN (mn i9))) rg2), (oa rx2 cI cap2 U2), (oa ry2 cI cap2 V2)]) hP hD hS hA [5, 6, 7] rfl rfl
    refine zcall (st1 := [.int (nI (Int.natAbs (ar2 (nN (mn i9)) U2 V2 (nN (mn i9)))))]) (va_runV (As := []) (rest := []) ⟨hx, hb, hml, hown, hts⟩ (k_Row_doubleArea l dC dI cI cZ cF H.size r2 rx2 ry2 (nN (mn i9)) cap2 U2 V2 rg2 (by first | with_reducible assumption | omega) (by first | with_reducible assumption | omega) (hq2)) (csV_123 hts rfl rfl ⟨Nat.le_of_ble_eq_true rfl, Nat.le_of_ble_eq_true rfl⟩) (zPV2 (q0 := 0) (ci := 6) hPc hDc hK hXN rfl rfl) rfl rfl hl.1 rfl (lv_room (Nat.le_of_ble_eq_true rfl)) dX10_isSmallHouse_14 ⟨Nat.le_of_ble_eq_true rfl, Nat.le_of_ble_eq_true rfl⟩) hS hFc hFc rfl (fun t H locs ht hB hk1 hS => ?_)
    obtain ⟨hP1, hD1⟩ := hB
    rw [ht] at hP1
    obtain ⟨hP, hD⟩ := zkQ (W2 := [(oc8 x (.ref sh) (.ref lw) (.ref ro) (.ref bq) (.ref bp) (.ref dq) (.ref dp) (.ref lv) (.ref sl) ds sd ul su), (oc7 sh (.ref fa) (nI ft)), (oq fa cF 200 FA), (oc1 fe2 (rk i9) (wd i9) (tw i9) (pa i9) (pb i9) (.ref lo2) (.ref lk2) fm2), (oc4 lk2 (kd i9) (st i9) (.ref r2) (gb i9) (it i9) we2), (oc6 r2 (.ref rx2) (.ref ry2) (nI (nN (mn i9))) rg2), (oa rx2 cI cap2 U2), (oa ry2 cI cap2 V2)]) hP hD [5, 6, 7] [0, 1, 2, 3, 4] [0, 1, 2, 3, 4] [5, 6, 7] [0, 1, 2, 3, 4, 5, 6, 7] 8 rfl rfl rfl rfl rfl rfl rfl rfl rfl hk1 hFc hP1 hD1
    clear hk1 hPc hDc hFc hP1 hD1 ht
    refine lv_iload_n hx hb dX10_isSmallHouse_17 rfl (lv_at hl 3 rfl) ?_
    have b9_2 : (Int.natAbs (ar2 (nN (mn i9)) U2 V2 (nN (mn i9)))) < 2147483648 := by omega
    refine lv_icmp_ge (tgt := 25) hx hb dX10_isSmallHouse_18 rfl (fun c_1 => ?_) (fun c_1 => ?_)
    · have c_1 : le9.toInt ≤ ((Int.natAbs (ar2 (nN (mn i9)) U2 V2 (nN (mn i9))) : Nat) : Int) := zc_le rfl (nI_toInt b9_2) c_1
      refine lv_iconst (v := 0) hx hb dX10_isSmallHouse_25 rfl ?_
      have hP := pl_back (cs := [(oc1 fe2 (rk i9) (wd i9) (tw i9) (pa i9) (pb i9) (.ref lo2) (.ref lk2) fm2), (oc4 lk2 (kd i9) (st i9) (.ref r2) (gb i9) (it i9) we2), (oc6 r2 (.ref rx2) (.ref ry2) (nI (nN (mn i9))) rg2), (oa rx2 cI cap2 U2), (oa ry2 cI cap2 V2)]) (L := L) (f := f) (X := [(oc8 x (.ref sh) (.ref lw) (.ref ro) (.ref bq) (.ref bp) (.ref dq) (.ref dp) (.ref lv) (.ref sl) ds sd ul su), (oc7 sh (.ref fa) (nI ft)), (oq fa cF 200 FA)]) (by rw [hT_1]; exact (show va_P (dC, dI) classes (([(oc8 x (.ref sh) (.ref lw) (.ref ro) (.ref bq) (.ref bp) (.ref dq) (.ref dp) (.ref lv) (.ref sl) ds sd ul su), (oc7 sh (.ref fa) (nI ft)), (oq fa cF 200 FA)] ++ [(oc1 fe2 (rk i9) (wd i9) (tw i9) (pa i9) (pb i9) (.ref lo2) (.ref lk2) fm2), (oc4 lk2 (kd i9) (st i9) (.ref r2) (gb i9) (it i9) we2), (oc6 r2 (.ref rx2) (.ref ry2) (nI (nN (mn i9))) rg2), (oa rx2 cI cap2 U2), (oa ry2 cI cap2 V2)]) ++ va_pl T_1 f) H from hP)) hc9_1
      have hD : va_D A ([(oc8 x (.ref sh) (.ref lw) (.ref ro) (.ref bq) (.ref bp) (.ref dq) (.ref dp) (.ref lv) (.ref sl) ds sd ul su), (oc7 sh (.ref fa) (nI ft)), (oq fa cF 200 FA)] ++ va_pl L f) := vaD_ae hD0_1 rfl
      obtain ⟨hP9, hD9⟩ := zq_part (cx := [(oc8 x (.ref sh) (.ref lw) (.ref ro) (.ref bq) (.ref bp) (.ref dq) (.ref dp) (.ref lv) (.ref sl) ds sd ul su), (oc7 sh (.ref fa) (nI ft)), (oq fa cF 200 FA)]) hP hD [0, 1, 2] rfl rfl
      rw [hQ9]
      exact W.zret (ty := .boolean) (v := 0) hx hb hr (rfl) (fun t ht hW => ⟨⟨congrArg (fun z => Outcome.returned (some (Value.int z))) (show (0 : Int32) = pI (smF ft st tn kd mn cx cy le9.toInt i9) from (zp_f (by first | exact ⟨hlv2, hA2.2, by have e9 := ar2_cg hrr2.2.2.2.2 _ (Nat.le_refl _); unfold arF; rw [← e9]; omega⟩ | exact fun h => by first | exact absurd h.1.2.2 ht2 | exact absurd ⟨h.1.2.1, h.2.1⟩ hA2 | (have e9 := ar2_cg hrr2.2.2.2.2 _ (Nat.le_refl _); have h9 := h.2.2; unfold arF at h9; rw [← e9] at h9; omega))).symm), by rw [ht]; exact hP9, hD9⟩, hS.F ht⟩) hS.2.2 dX10_isSmallHouse_26
    · have c_1 : ((Int.natAbs (ar2 (nN (mn i9)) U2 V2 (nN (mn i9))) : Nat) : Int) < le9.toInt := zc_nle rfl (nI_toInt b9_2) c_1
      refine lv_iconst (v := 1) hx hb dX10_isSmallHouse_21 rfl ?_
      refine lv_goto (tgt := 26) hx hb dX10_isSmallHouse_22 rfl ?_
      have hP := pl_back (cs := [(oc1 fe2 (rk i9) (wd i9) (tw i9) (pa i9) (pb i9) (.ref lo2) (.ref lk2) fm2), (oc4 lk2 (kd i9) (st i9) (.ref r2) (gb i9) (it i9) we2), (oc6 r2 (.ref rx2) (.ref ry2) (nI (nN (mn i9))) rg2), (oa rx2 cI cap2 U2), (oa ry2 cI cap2 V2)]) (L := L) (f := f) (X := [(oc8 x (.ref sh) (.ref lw) (.ref ro) (.ref bq) (.ref bp) (.ref dq) (.ref dp) (.ref lv) (.ref sl) ds sd ul su), (oc7 sh (.ref fa) (nI ft)), (oq fa cF 200 FA)]) (by rw [hT_1]; exact (show va_P (dC, dI) classes (([(oc8 x (.ref sh) (.ref lw) (.ref ro) (.ref bq) (.ref bp) (.ref dq) (.ref dp) (.ref lv) (.ref sl) ds sd ul su), (oc7 sh (.ref fa) (nI ft)), (oq fa cF 200 FA)] ++ [(oc1 fe2 (rk i9) (wd i9) (tw i9) (pa i9) (pb i9) (.ref lo2) (.ref lk2) fm2), (oc4 lk2 (kd i9) (st i9) (.ref r2) (gb i9) (it i9) we2), (oc6 r2 (.ref rx2) (.ref ry2) (nI (nN (mn i9))) rg2), (oa rx2 cI cap2 U2), (oa ry2 cI cap2 V2)]) ++ va_pl T_1 f) H from hP)) hc9_1
      have hD : va_D A ([(oc8 x (.ref sh) (.ref lw) (.ref ro) (.ref bq) (.ref bp) (.ref dq) (.ref dp) (.ref lv) (.ref sl) ds sd ul su), (oc7 sh (.ref fa) (nI ft)), (oq fa cF 200 FA)] ++ va_pl L f) := vaD_ae hD0_1 rfl
      obtain ⟨hP9, hD9⟩ := zq_part (cx := [(oc8 x (.ref sh) (.ref lw) (.ref ro) (.ref bq) (.ref bp) (.ref dq) (.ref dp) (.ref lv) (.ref sl) ds sd ul su), (oc7 sh (.ref fa) (nI ft)), (oq fa cF 200 FA)]) hP hD [0, 1, 2] rfl rfl
      rw [hQ9]
      exact W.zret (ty := .boolean) (v := 1) hx hb hr (rfl) (fun t ht hW => ⟨⟨congrArg (fun z => Outcome.returned (some (Value.int z))) (show (1 : Int32) = pI (smF ft st tn kd mn cx cy le9.toInt i9) from (zp_t (by first | exact ⟨hlv2, hA2.2, by have e9 := ar2_cg hrr2.2.2.2.2 _ (Nat.le_refl _); unfold arF; rw [← e9]; omega⟩ | exact fun h => by first | exact absurd h.1.2.2 ht2 | exact absurd ⟨h.1.2.1, h.2.1⟩ hA2 | (have e9 := ar2_cg hrr2.2.2.2.2 _ (Nat.le_refl _); have h9 := h.2.2; unfold arF at h9; rw [← e9] at h9; omega))).symm), by rw [ht]; exact hP9, hD9⟩, hS.F ht⟩) hS.2.2 dX10_isSmallHouse_26
  · skip
    have hcap2 := hrr2.1
    have hcap3 := hrr2.2.1
    have hc9_1 : inPl L f [(oc1 fe2 (rk i9) (wd i9) (tw i9) (pa i9) (pb i9) (.ref lo2) (.ref lk2) fm2), (oc4 lk2 (kd i9) (st i9) (.ref r2) (gb i9) (it i9) we2), (oc6 r2 (.ref rx2) (.ref ry2) (nI (nN (mn i9))) rg2), (oa rx2 cI cap2 U2), (oa ry2 cI cap2 V2)] := ⟨hfe2, hlk2, hr2, hrx2, hry2, trivial⟩
    have hD0_1 := hD
    obtain ⟨hP, hD⟩ := pl_out hP hD [(oc1 fe2 (rk i9) (wd i9) (tw i9) (pa i9) (pb i9) (.ref lo2) (.ref lk2) fm2), (oc4 lk2 (kd i9) (st i9) (.ref r2) (gb i9) (it i9) we2), (oc6 r2 (.ref rx2) (.ref ry2) (nI (nN (mn i9))) rg2), (oa rx2 cI cap2 U2), (oa ry2 cI cap2 V2)] hc9_1 (pwR hfe2.2 hlk2.2 hr2.2 hrx2.2 hry2.2 hne2)
    generalize hT_1 : outPl L [(oc1 fe2 (rk i9) (wd i9) (tw i9) (pa i9) (pb i9) (.ref lo2) (.ref lk2) fm2), (oc4 lk2 (kd i9) (st i9) (.ref r2) (gb i9) (it i9) we2), (oc6 r2 (.ref rx2) (.ref ry2) (nI (nN (mn i9))) rg2), (oa rx2 cI cap2 U2), (oa ry2 cI cap2 V2)] = T_1 at hP hD
    obtain ⟨hP, hD⟩ : zPD (dC, dI) classes A ([(oc8 x (.ref sh) (.ref lw) (.ref ro) (.ref bq) (.ref bp) (.ref dq) (.ref dp) (.ref lv) (.ref sl) ds sd ul su), (oc7 sh (.ref fa) (nI ft)), (oq fa cF 200 FA), (oc1 fe2 (rk i9) (wd i9) (tw i9) (pa i9) (pb i9) (.ref lo2) (.ref lk2) fm2), (oc4 lk2 (kd i9) (st i9) (.ref r2) (gb i9) (it i9) we2), (oc6 r2 (.ref rx2) (.ref ry2) (nI (nN (mn i9))) rg2), (oa rx2 cI cap2 U2), (oa ry2 cI cap2 V2)] ++ va_pl T_1 f) s.heap := ⟨hP, hD⟩
    refine lv_aload_n hx hb dX10_isSmallHouse_0 rfl (lv_at hl 0 rfl) ?_
    refine va_get (D := (dC, dI)) (ci := 8) (v := .ref sh) (C := RX10) (T := TX10) (N := 13) hx hb hts inX10 hown hK hP 0 rfl rfl 0 (Nat.le_of_ble_eq_true rfl) (hts _ mw_309) (fun _ h9 => h9) rfl dX10_isSmallHouse_1 ?_
    refine lv_iload_n hx hb dX10_isSmallHouse_4 rfl (lv_at hl 1 rfl) ?_
    obtain ⟨hPc, hDc, hFc⟩ := zc_sub (wc := [(oc7 sh (.ref fa) (nI ft)), (oq fa cF 200 FA), (oc1 fe2 (rk i9) (wd i9) (tw i9) (pa i9) (pb i9) (.ref lo2) (.ref lk2) fm2), (oc4 lk2 (kd i9) (st i9) (.ref r2) (gb i9) (it i9) we2)]) hP hD hS hA [1, 2, 3, 4] rfl rfl
    refine zcall (st1 := [.null]) (va_runV (As := [.int (nI i9)]) (rest := []) ⟨hx, hb, hml, hown, hts⟩ (k_Sheet_houseThere_sv l dC dI cI cZ cF s.heap.size sh fa ft FA i9 fe2 lo2 (rk i9) (wd i9) (tw i9) (pa i9) (pb i9) lk2 (kd i9) (st i9) (gb i9) (it i9) we2 fm2 (.ref r2) (by first | with_reducible assumption | omega) (by first | with_reducible assumption | omega) (hFA2) (by first | exact hA2.1 | exact hA2)) (csV_122 hts rfl rfl ⟨Nat.le_of_ble_eq_true rfl, Nat.le_of_ble_eq_true rfl⟩) (zPV2 (q0 := 0) (ci := 7) hPc hDc hK hXN rfl rfl) rfl rfl hl.1 rfl (lv_room (Nat.le_of_ble_eq_true rfl)) dX10_isSmallHouse_5 ⟨Nat.le_of_ble_eq_true rfl, Nat.le_of_ble_eq_true rfl⟩) hS hFc hFc rfl (fun t H locs ht hB hk1 hS => ?_)
    obtain ⟨hP1, hD1⟩ := hB
    rw [ht] at hP1
    obtain ⟨hP, hD⟩ := zkQ (W2 := [(oc8 x (.ref sh) (.ref lw) (.ref ro) (.ref bq) (.ref bp) (.ref dq) (.ref dp) (.ref lv) (.ref sl) ds sd ul su), (oc7 sh (.ref fa) (nI ft)), (oq fa cF 200 FA), (oc1 fe2 (rk i9) (wd i9) (tw i9) (pa i9) (pb i9) (.ref lo2) (.ref lk2) fm2), (oc4 lk2 (kd i9) (st i9) (.ref r2) (gb i9) (it i9) we2), (oc6 r2 (.ref rx2) (.ref ry2) (nI (nN (mn i9))) rg2), (oa rx2 cI cap2 U2), (oa ry2 cI cap2 V2)]) hP hD [1, 2, 3, 4] [0, 5, 6, 7] [0, 5, 6, 7] [1, 2, 3, 4] [0, 4, 5, 6, 7, 1, 2, 3] 8 rfl rfl rfl rfl rfl rfl rfl rfl rfl hk1 hFc hP1 hD1
    clear hk1 hPc hDc hFc hP1 hD1 ht
    refine lv_astore_nN (lv' := [(3, .null), (0, .ref x), (1, .int (nI i9)), (2, .int le9)]) hx hb dX10_isSmallHouse_8 rfl hl (Nat.le_of_ble_eq_true rfl) rfl (fun ls hl => ?_)
    refine lv_aload_nN hx hb dX10_isSmallHouse_9 rfl (lv_at hl 0 rfl) ?_
    refine lv_ifnullN (tgt := 25) hx hb dX10_isSmallHouse_10 rfl ?_
    refine lv_iconst (v := 0) hx hb dX10_isSmallHouse_25 rfl ?_
    have hP := pl_back (cs := [(oc1 fe2 (rk i9) (wd i9) (tw i9) (pa i9) (pb i9) (.ref lo2) (.ref lk2) fm2), (oc4 lk2 (kd i9) (st i9) (.ref r2) (gb i9) (it i9) we2), (oc6 r2 (.ref rx2) (.ref ry2) (nI (nN (mn i9))) rg2), (oa rx2 cI cap2 U2), (oa ry2 cI cap2 V2)]) (L := L) (f := f) (X := [(oc8 x (.ref sh) (.ref lw) (.ref ro) (.ref bq) (.ref bp) (.ref dq) (.ref dp) (.ref lv) (.ref sl) ds sd ul su), (oc7 sh (.ref fa) (nI ft)), (oq fa cF 200 FA)]) (by rw [hT_1]; exact (show va_P (dC, dI) classes (([(oc8 x (.ref sh) (.ref lw) (.ref ro) (.ref bq) (.ref bp) (.ref dq) (.ref dp) (.ref lv) (.ref sl) ds sd ul su), (oc7 sh (.ref fa) (nI ft)), (oq fa cF 200 FA)] ++ [(oc1 fe2 (rk i9) (wd i9) (tw i9) (pa i9) (pb i9) (.ref lo2) (.ref lk2) fm2), (oc4 lk2 (kd i9) (st i9) (.ref r2) (gb i9) (it i9) we2), (oc6 r2 (.ref rx2) (.ref ry2) (nI (nN (mn i9))) rg2), (oa rx2 cI cap2 U2), (oa ry2 cI cap2 V2)]) ++ va_pl T_1 f) H from hP)) hc9_1
    have hD : va_D A ([(oc8 x (.ref sh) (.ref lw) (.ref ro) (.ref bq) (.ref bp) (.ref dq) (.ref dp) (.ref lv) (.ref sl) ds sd ul su), (oc7 sh (.ref fa) (nI ft)), (oq fa cF 200 FA)] ++ va_pl L f) := vaD_ae hD0_1 rfl
    obtain ⟨hP9, hD9⟩ := zq_part (cx := [(oc8 x (.ref sh) (.ref lw) (.ref ro) (.ref bq) (.ref bp) (.ref dq) (.ref dp) (.ref lv) (.ref sl) ds sd ul su), (oc7 sh (.ref fa) (nI ft)), (oq fa cF 200 FA)]) hP hD [0, 1, 2] rfl rfl
    rw [hQ9]
    exact W.zret (ty := .boolean) (v := 0) hx hb hr (rfl) (fun t ht hW => ⟨⟨congrArg (fun z => Outcome.returned (some (Value.int z))) (show (0 : Int32) = pI (smF ft st tn kd mn cx cy le9.toInt i9) from (zp_f (by first | exact ⟨hlv2, hA2.2, by have e9 := ar2_cg hrr2.2.2.2.2 _ (Nat.le_refl _); unfold arF; rw [← e9]; omega⟩ | exact fun h => by first | exact absurd h.1.2.2 ht2 | exact absurd ⟨h.1.2.1, h.2.1⟩ hA2 | (have e9 := ar2_cg hrr2.2.2.2.2 _ (Nat.le_refl _); have h9 := h.2.2; unfold arF at h9; rw [← e9] at h9; omega))).symm), by rw [ht]; exact hP9, hD9⟩, hS.F ht⟩) hS.2.2 dX10_isSmallHouse_26
end
section
/-! two features at a time -/
theorem fc_ne {cI : ClassId} {L : List Nat} {f : Nat → va_E} {own : Nat → Nat} {q gl gr fq nq cq p : Nat} {fv : Value} {rk9 wd9 tw9 pa9 pb9 kd9 st9 gb9 it9 : Int32} {n : Nat} {C D : Nat → Int32} {lo lx ly ln : Nat} {LX LY : Nat → Int32} {we9 r rx ry cap : Nat} {X Y : Nat → Int32} {x1 x2 x3 x4 x5 x6 x7 x8 : va_E} (h : fcA cI L f own q gl gr fq nq cq fv rk9 wd9 tw9 pa9 pb9 kd9 st9 gb9 it9 n C D lo lx ly ln LX LY we9 r rx ry cap X Y) (hgl : gl / 8 = q) (hgr : gr / 8 = q) (hp : p ≠ q) :
    ∀ c ∈ ([(fq, x1), (nq, x2), (r, x3), (rx, x4), (ry, x5), (lo, x6), (lx, x7), (ly, x8)] : va_W), own c.1 / 8 ≠ p := by
  obtain ⟨⟨a1, a2, ⟨a3, a4, a5, a6⟩, ⟨a7, a8, a9, a10⟩⟩, _⟩ := h
  intro c hc
  simp only [List.mem_cons, List.not_mem_nil, or_false] at hc
  rcases hc with rfl | rfl | rfl | rfl | rfl | rfl | rfl | rfl
  · rw [a1.2.2]; omega
  · rw [a2.2.2, hgl]; omega
  · rw [a3.2.2, hgr]; omega
  · rw [a4.2.2, hgr]; omega
  · rw [a5.2.2, hgr]; omega
  · rw [a7.2.2]; omega
  · rw [a8.2.2]; omega
  · rw [a9.2.2]; omega
theorem rk_c {cI : ClassId} {L : List Nat} {f : Nat → va_E} {FA : Nat → Option Nat} {rk wd tw pa pb kd st gb it tn mn cx cy : Nat → Int32} {i j ft : Nat} (hi : i < ft) (h : i ≠ j → vwA cI L f FA rk wd tw pa pb kd st gb it tn mn cx cy i) :
    i = j ∨ (i ≠ j ∧ ¬ (tn i).toInt = 0 ∧ ∃ (fe lk lo : Nat) (we : Int32) (fm : Value), FA i = some fe ∧ (fe ∈ L ∧ f fe = .inr (1, [.int (rk i), .int (wd i), .int (tw i), .int (pa i), .int (pb i), .ref lo, .ref lk, fm])) ∧ (lk ∈ L ∧ f lk = .inr (4, [.int (kd i), .int (st i), .null, .int (gb i), .int (it i), .int we]))) ∨
    (i ≠ j ∧ (tn i).toInt = 0 ∧ ((st i).toInt = 1 ∧ (kd i).toInt = 6) ∧ ∃ (fe lk lo : Nat) (we : Int32) (fm : Value) (r rx ry cap : Nat) (X Y : Nat → Int32) (rg : Int32), FA i = some fe ∧ (fe ∈ L ∧ f fe = .inr (1, [.int (rk i), .int (wd i), .int (tw i), .int (pa i), .int (pb i), .ref lo, .ref lk, fm])) ∧ (lk ∈ L ∧ f lk = .inr (4, [.int (kd i), .int (st i), .ref r, .int (gb i), .int (it i), .int we])) ∧ rwA cI L f r rx ry (nN (mn i)) cap X Y rg ∧ rwR kd mn cx cy i cap X Y rg) ∨
    (i ≠ j ∧ (tn i).toInt = 0 ∧ ¬ ((st i).toInt = 1 ∧ (kd i).toInt = 6) ∧ ∃ (fe lk lo : Nat) (we : Int32) (fm : Value) (r rx ry cap : Nat) (X Y : Nat → Int32) (rg : Int32), FA i = some fe ∧ (fe ∈ L ∧ f fe = .inr (1, [.int (rk i), .int (wd i), .int (tw i), .int (pa i), .int (pb i), .ref lo, .ref lk, fm])) ∧ (lk ∈ L ∧ f lk = .inr (4, [.int (kd i), .int (st i), .ref r, .int (gb i), .int (it i), .int we])) ∧ rwA cI L f r rx ry (nN (mn i)) cap X Y rg ∧ rwR kd mn cx cy i cap X Y rg) := by
  by_cases e : i = j
  · exact Or.inl e
  · rcases vwA_3 (P9 := (st i).toInt = 1 ∧ (kd i).toInt = 6) (h e) with ⟨t0, g⟩ | ⟨t0, p, g⟩ | ⟨t0, p, g⟩
    · exact Or.inr (Or.inl ⟨e, t0, g⟩)
    · exact Or.inr (Or.inr (Or.inl ⟨e, t0, p, g⟩))
    · exact Or.inr (Or.inr (Or.inr ⟨e, t0, p, g⟩))
end
