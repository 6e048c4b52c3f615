set_option maxHeartbeats 4000000 in
set_option maxRecDepth 100000 in
theorem k_forgetUndone (l : Launch) (dC : Nat → ClassId) (dI : Nat → Nat → Nat) (cI cZ cF : ClassId) (sz : Nat) (cO : ClassId) (e0 : Nat) (mi : Nat) (x : Nat) (sh : Nat) (lw : Nat) (ro : Nat) (bq : Nat) (bp : Nat) (dq : Nat) (dp : Nat) (lv : Nat) (sl : Nat) (sd : Int32) (ul : Int32) (su : Int32) (sl : Nat) (ea : Nat) (nz : Nat) (mc9 : Int32) (dn : Nat) (SA : Nat → Option Nat) (L : List Nat) (f : Nat → va_E) (own : Nat → Nat) (hL : LsA cO L f own e0 ea nz SA) (hdn : dn ≤ nz) (hn5 : nz ≤ 512) : Met l yX10_forgetUndone (.code yX10_forgetUndone cX10_forgetUndone 2 none :: ws0) ({ frames := 3, cells := 0, slots := 0, locals := 66 } : Room) (va_Pc [.ref x] (zPre (dC, dI) classes (zTyO cI cZ cF cO) ([(oc8 x (.ref sh) (.ref lw) (.ref ro) (.ref bq) (.ref bp) (.ref dq) (.ref dp) (.ref lv) (.ref sl) (nI dn) sd ul su), (oc10 sl mc9 (.ref ea) (nI nz))] ++ va_pl L f) sz (zXL e0 mi (va_A ([(oc8 x (.ref sh) (.ref lw) (.ref ro) (.ref bq) (.ref bp) (.ref dq) (.ref dp) (.ref lv) (.ref sl) (nI dn) sd ul su), (oc10 sl mc9 (.ref ea) (nI nz))] ++ va_pl L f) sz)))) (zQ none (fun t => ∃ (mc1 : Int32), ∃ (L1 : List Nat), ∃ (f1 : Nat → va_E), ∃ (SA1 : Nat → Option Nat), (LsA cO L1 f1 own e0 ea dn SA1) ∧ (∀ i, i < dn → SA1 i = SA i) ∧ (kpT (fun g => g ≠ 8002) L f own L1 f1 own) ∧ va_P (dC, dI) classes ([(oc8 x (.ref sh) (.ref lw) (.ref ro) (.ref bq) (.ref bp) (.ref dq) (.ref dp) (.ref lv) (.ref sl) (nI dn) sd ul su), (oc10 sl mc1 (.ref ea) (nI dn))] ++ va_pl L1 f1) t.heap ∧ va_D (va_A ([(oc8 x (.ref sh) (.ref lw) (.ref ro) (.ref bq) (.ref bp) (.ref dq) (.ref dp) (.ref lv) (.ref sl) (nI dn) sd ul su), (oc10 sl mc9 (.ref ea) (nI nz))] ++ va_pl L f) sz) ([(oc8 x (.ref sh) (.ref lw) (.ref ro) (.ref bq) (.ref bp) (.ref dq) (.ref dp) (.ref lv) (.ref sl) (nI dn) sd ul su), (oc10 sl mc1 (.ref ea) (nI dn))] ++ va_pl L1 f1)) (va_A ([(oc8 x (.ref sh) (.ref lw) (.ref ro) (.ref bq) (.ref bp) (.ref dq) (.ref dp) (.ref lv) (.ref sl) (nI dn) sd ul su), (oc10 sl mc9 (.ref ea) (nI nz))] ++ va_pl L f) sz)) 0 0 (va_A ([(oc8 x (.ref sh) (.ref lw) (.ref ro) (.ref bq) (.ref bp) (.ref dq) (.ref dp) (.ref lv) (.ref sl) (nI dn) sd ul su), (oc10 sl mc9 (.ref ea) (nI nz))] ++ va_pl L f) sz) := by
  refine Met.ofW (cc := cX10_forgetUndone) (maxL := 2) (ret := none) (by decide) rfl ?_
  intro p e s m args below meth c s₁ B hml hv
  obtain ⟨rfl, hsz, hP, hK, hD0, hXL⟩ := hv
  have hx := B.exec
  have hb := B.bytes
  have hr := B.returns
  have hts0 := atoms_spec (ws := .code yX10_forgetUndone cX10_forgetUndone 2 none :: ws0) B.pre
  have hts : ∀ w9 ∈ ws0, w9.before ([.ref x] : List Value).toArray s = true := fun w9 h => hts0 w9 (List.mem_cons_of_mem _ h)
  have hown : s.vm.findClass "ScaleShop" = some m.cls := findClass_of_methodNamed B.named
  have hlocks := B.notSynchronized
  subst hsz
  have hD := hD0.self (sz := s.heap.size)
  clear hD0
  generalize hAe : va_A ([(oc8 x (.ref sh) (.ref lw) (.ref ro) (.ref bq) (.ref bp) (.ref dq) (.ref dp) (.ref lv) (.ref sl) (nI dn) sd ul su), (oc10 sl mc9 (.ref ea) (nI nz))] ++ va_pl L f) s.heap.size = A at hD hXL ⊢
  have hA : ∀ q : Nat, s.heap.size ≤ q → A q := fun q h => by rw [← hAe]; exact Or.inr h
  clear hAe
  have hS : va_S A s.heap s.heap [] := va_S.rf
  have hXN := hXL.1
  have hK3 := hK.sub [0, 1, 2] rfl
  have hP : va_P (dC, dI) classes ([(oc8 x (.ref sh) (.ref lw) (.ref ro) (.ref bq) (.ref bp) (.ref dq) (.ref dp) (.ref lv) (.ref sl) (nI dn) sd ul su), (oc10 sl mc9 (.ref ea) (nI nz))] ++ va_pl L f) s.heap := hP
  obtain ⟨Q9, hQ9⟩ : ∃ Q9 : State → Prop, Q9 = MQ below (zQ none (fun t => ∃ (mc1 : Int32), ∃ (L1 : List Nat), ∃ (f1 : Nat → va_E), ∃ (SA1 : Nat → Option Nat), (LsA cO L1 f1 own e0 ea dn SA1) ∧ (∀ i, i < dn → SA1 i = SA i) ∧ (kpT (fun g => g ≠ 8002) L f own L1 f1 own) ∧ va_P (dC, dI) classes ([(oc8 x (.ref sh) (.ref lw) (.ref ro) (.ref bq) (.ref bp) (.ref dq) (.ref dp) (.ref lv) (.ref sl) (nI dn) sd ul su), (oc10 sl mc1 (.ref ea) (nI dn))] ++ va_pl L1 f1) t.heap ∧ va_D A ([(oc8 x (.ref sh) (.ref lw) (.ref ro) (.ref bq) (.ref bp) (.ref dq) (.ref dp) (.ref lv) (.ref sl) (nI dn) sd ul su), (oc10 sl mc1 (.ref ea) (nI dn))] ++ va_pl L1 f1)) A) ([.ref x] : List Value).toArray s 0 0 A := ⟨_, rfl⟩
  rw [← hQ9]
  have hl := lv_entry ([.ref x]) (n := 2) (Nat.le_of_ble_eq_true rfl)
  rw [lg_entry_eq]
  generalize (lg_sl ([.ref x]) ++ List.replicate (2 - (lg_sl ([.ref x])).length) Slot.unset).toArray = ls at hl ⊢
  have hl : lv_has ls 2 [(0, .ref x)] := hl
  have hL9 := hL
  rcases hL with ⟨hEa, hn0⟩ | ⟨cap5, hce5, hnc5, hc10, hc1k, hent⟩
  · skip
    refine lv_aload_n hx hb dX10_forgetUndone_0 rfl (lv_at hl 0 rfl) ?_
    refine va_get (D := (dC, dI)) (ci := 8) (v := .ref sl) (C := RX10) (T := TX10) (N := 13) hx hb hts inX10 hown hK hP 0 rfl rfl 8 (by decide) (hts _ mw_317) (fun _ h9 => h9) rfl dX10_forgetUndone_1 ?_
    have hPc := hP.sub (ws' := [(oc10 sl mc9 (.ref ea) (nI nz))]) [1] rfl
    have hDc := hD.sub (ws' := [(oc10 sl mc9 (.ref ea) (nI nz))]) [1] (by decide) rfl
    have hFc := va_free (wc := [(oc10 sl mc9 (.ref ea) (nI nz))]) hD hS hA [1] rfl
    refine zcall (st1 := [.int (nI nz)]) (va_runV (As := []) (rest := []) ⟨hx, hb, hml, hown, hts⟩ (k_AL_size l dC dI cI cZ cF s.heap.size sl ea nz mc9 ) (cwV 0 hts (zz_gV mw_468 mw_469 mw_470 mw_109 mc_yJx4a65c_size_8abf5) rfl rfl rfl (by decide +kernel) ⟨Nat.le_of_ble_eq_true rfl, Nat.le_of_ble_eq_true rfl⟩) (zPV2 (q0 := 0) (ci := 10) hPc hDc hK3 hXN rfl rfl) rfl rfl hl.1 rfl (lv_room (Nat.le_of_ble_eq_true rfl)) dX10_forgetUndone_4 ⟨Nat.le_of_ble_eq_true rfl, Nat.le_of_ble_eq_true rfl⟩) hS hFc hFc rfl (fun t H1 locs ht hB hk1 hS => ?_)
    obtain ⟨hP1, hD1⟩ := hB
    rw [ht] at hP1
    obtain ⟨hP, hD⟩ := va_joinQ (wr := [(oc8 x (.ref sh) (.ref lw) (.ref ro) (.ref bq) (.ref bp) (.ref dq) (.ref dp) (.ref lv) (.ref sl) (nI dn) sd ul su)]) (w1 := [(oc10 sl mc9 (.ref ea) (nI nz))]) hP hD [1] [0] rfl rfl (by decide) (by decide) hk1 hFc hP1 hD1
    clear hk1 hPc hDc hFc hP1 hD1 ht
    generalize H1 = H at hP hS ⊢
    have hP : va_P (dC, dI) classes ([(oc8 x (.ref sh) (.ref lw) (.ref ro) (.ref bq) (.ref bp) (.ref dq) (.ref dp) (.ref lv) (.ref sl) (nI dn) sd ul su), (oc10 sl mc9 (.ref ea) (nI nz))] ++ va_pl L f) H := hP
    have hD : va_D A ([(oc8 x (.ref sh) (.ref lw) (.ref ro) (.ref bq) (.ref bp) (.ref dq) (.ref dp) (.ref lv) (.ref sl) (nI dn) sd ul su), (oc10 sl mc9 (.ref ea) (nI nz))] ++ va_pl L f) := hD
    refine lv_iconst (v := 1) hx hb dX10_forgetUndone_7 (by decide) ?_
    refine lv_isub hx hb dX10_forgetUndone_8 ?_
    refine zz_i (v := iI (((nz : Nat) : Int) - 1)) (ii_pre (by omega)) ?_
    refine lv_istore_n (lv' := [(1, .int (iI (((nz : Nat) : Int) - 1))), (0, .ref x)]) hx hb dX10_forgetUndone_9 rfl hl (by decide) rfl (fun ls hl => ?_)
    refine lv_iload_n hx hb dX10_forgetUndone_10 rfl (lv_at hl 0 rfl) ?_
    refine lv_aload_n hx hb dX10_forgetUndone_11 rfl (lv_at hl 1 rfl) ?_
    refine va_get (D := (dC, dI)) (ci := 8) (v := .int (nI dn)) (C := RX10) (T := TX10) (N := 13) hx hb hts inX10 hown hK hP 0 rfl rfl 9 (by decide) (hts _ mw_318) (fun _ h9 => h9) rfl dX10_forgetUndone_12 ?_
    refine lv_icmp_lt (tgt := 37) hx hb dX10_forgetUndone_15 (by decide) (fun c_1 => ?_) (fun c_1 => ?_)
    · have c_1 : (((nz : Nat) : Int) - 1) < ((dn : Nat) : Int) := zc_lt (iI_toInt (by omega)) (nI_toInt (by omega)) c_1
      have hnd : nz = dn := (by omega)
      rw [hnd] at hL9
      have hP9 := hP.part (cx := [(oc8 x (.ref sh) (.ref lw) (.ref ro) (.ref bq) (.ref bp) (.ref dq) (.ref dp) (.ref lv) (.ref sl) (nI dn) sd ul su), (oc10 sl mc9 (.ref ea) (nI nz))]) [0, 1] rfl
      have hD9 := hD.part (cx := [(oc8 x (.ref sh) (.ref lw) (.ref ro) (.ref bq) (.ref bp) (.ref dq) (.ref dp) (.ref lv) (.ref sl) (nI dn) sd ul su), (oc10 sl mc9 (.ref ea) (nI nz))]) [0, 1] (by decide) rfl
      have hE9 : (([(oc8 x (.ref sh) (.ref lw) (.ref ro) (.ref bq) (.ref bp) (.ref dq) (.ref dp) (.ref lv) (.ref sl) (nI dn) sd ul su), (oc10 sl mc9 (.ref ea) (nI nz))] ++ va_pl L f) : va_W) = ([(oc8 x (.ref sh) (.ref lw) (.ref ro) (.ref bq) (.ref bp) (.ref dq) (.ref dp) (.ref lv) (.ref sl) (nI dn) sd ul su), (oc10 sl mc9 (.ref ea) (nI dn))] ++ va_pl L f) := by rw [show nz = dn by omega]
      rw [hE9] at hP9 hD9
      rw [hQ9]
      exact W.vret hx hb hr (fun t ht hW => ⟨⟨rfl, mc9, L, f, SA, (hL9), (fun i hi => rfl), (kpT_rf), by rw [ht]; exact hP9, hD9⟩, hS.F ht⟩) hS.2.2 dX10_forgetUndone_37
    · have c_1 : ((dn : Nat) : Int) ≤ (((nz : Nat) : Int) - 1) := zc_nlt (iI_toInt (by omega)) (nI_toInt (by omega)) c_1
      exfalso; omega
  · skip
    have hcap5 : 10 ≤ cap5 ∧ cap5 ≤ 1000 := ⟨hc10, hc1k⟩
    have hc9_1 : inPl L f [(oq ea cO cap5 SA)] := ⟨ce_pl hce5, trivial⟩
    have hD0_1 := hD
    obtain ⟨hP, hD⟩ := pl_out hP hD [(oq ea cO cap5 SA)] hc9_1 (List.pairwise_singleton _ _)
    generalize hT_1 : outPl L [(oq ea cO cap5 SA)] = T_1 at hP hD
    have hP : va_P (dC, dI) classes ([(oc8 x (.ref sh) (.ref lw) (.ref ro) (.ref bq) (.ref bp) (.ref dq) (.ref dp) (.ref lv) (.ref sl) (nI dn) sd ul su), (oc10 sl mc9 (.ref ea) (nI nz)), (oq ea cO cap5 SA)] ++ va_pl T_1 f) s.heap := hP
    have hD : va_D A ([(oc8 x (.ref sh) (.ref lw) (.ref ro) (.ref bq) (.ref bp) (.ref dq) (.ref dp) (.ref lv) (.ref sl) (nI dn) sd ul su), (oc10 sl mc9 (.ref ea) (nI nz)), (oq ea cO cap5 SA)] ++ va_pl T_1 f) := hD
    refine lv_aload_n hx hb dX10_forgetUndone_0 rfl (lv_at hl 0 rfl) ?_
    refine va_get (D := (dC, dI)) (ci := 8) (v := .ref sl) (C := RX10) (T := TX10) (N := 13) hx hb hts inX10 hown hK hP 0 rfl rfl 8 (by decide) (hts _ mw_317) (fun _ h9 => h9) rfl dX10_forgetUndone_1 ?_
    have hPc := hP.sub (ws' := [(oc10 sl mc9 (.ref ea) (nI nz))]) [1] rfl
    have hDc := hD.sub (ws' := [(oc10 sl mc9 (.ref ea) (nI nz))]) [1] (by decide) rfl
    have hFc := va_free (wc := [(oc10 sl mc9 (.ref ea) (nI nz))]) hD hS hA [1] rfl
    refine zcall (st1 := [.int (nI nz)]) (va_runV (As := []) (rest := []) ⟨hx, hb, hml, hown, hts⟩ (k_AL_size l dC dI cI cZ cF s.heap.size sl ea nz mc9 ) (cwV 0 hts (zz_gV mw_468 mw_469 mw_470 mw_109 mc_yJx4a65c_size_8abf5) rfl rfl rfl (by decide +kernel) ⟨Nat.le_of_ble_eq_true rfl, Nat.le_of_ble_eq_true rfl⟩) (zPV2 (q0 := 0) (ci := 10) hPc hDc hK3 hXN rfl rfl) rfl rfl hl.1 rfl (lv_room (Nat.le_of_ble_eq_true rfl)) dX10_forgetUndone_4 ⟨Nat.le_of_ble_eq_true rfl, Nat.le_of_ble_eq_true rfl⟩) hS hFc hFc rfl (fun t H1 locs ht hB hk1 hS => ?_)
    obtain ⟨hP1, hD1⟩ := hB
    rw [ht] at hP1
    obtain ⟨hP, hD⟩ := va_joinQ (wr := [(oc8 x (.ref sh) (.ref lw) (.ref ro) (.ref bq) (.ref bp) (.ref dq) (.ref dp) (.ref lv) (.ref sl) (nI dn) sd ul su), (oq ea cO cap5 SA)]) (w1 := [(oc10 sl mc9 (.ref ea) (nI nz))]) hP hD [1] [0, 2] rfl rfl (by decide) (by decide) hk1 hFc hP1 hD1
    clear hk1 hPc hDc hFc hP1 hD1 ht
    generalize H1 = H at hP hS ⊢
    have hP := hP.part (cx := [(oc8 x (.ref sh) (.ref lw) (.ref ro) (.ref bq) (.ref bp) (.ref dq) (.ref dp) (.ref lv) (.ref sl) (nI dn) sd ul su), (oc10 sl mc9 (.ref ea) (nI nz)), (oq ea cO cap5 SA)]) [0, 2, 1] rfl
    have hD := hD.part (cx := [(oc8 x (.ref sh) (.ref lw) (.ref ro) (.ref bq) (.ref bp) (.ref dq) (.ref dp) (.ref lv) (.ref sl) (nI dn) sd ul su), (oc10 sl mc9 (.ref ea) (nI nz)), (oq ea cO cap5 SA)]) [0, 2, 1] (by decide) rfl
    have hP : va_P (dC, dI) classes ([(oc8 x (.ref sh) (.ref lw) (.ref ro) (.ref bq) (.ref bp) (.ref dq) (.ref dp) (.ref lv) (.ref sl) (nI dn) sd ul su), (oc10 sl mc9 (.ref ea) (nI nz)), (oq ea cO cap5 SA)] ++ va_pl T_1 f) H := hP
    have hD : va_D A ([(oc8 x (.ref sh) (.ref lw) (.ref ro) (.ref bq) (.ref bp) (.ref dq) (.ref dp) (.ref lv) (.ref sl) (nI dn) sd ul su), (oc10 sl mc9 (.ref ea) (nI nz)), (oq ea cO cap5 SA)] ++ va_pl T_1 f) := hD
    refine lv_iconst (v := 1) hx hb dX10_forgetUndone_7 (by decide) ?_
    refine lv_isub hx hb dX10_forgetUndone_8 ?_
    refine zz_i (v := iI (((nz : Nat) : Int) - 1)) (ii_pre (by omega)) ?_
    refine lv_istore_n (lv' := [(1, .int (iI (((nz : Nat) : Int) - 1))), (0, .ref x)]) hx hb dX10_forgetUndone_9 rfl hl (by decide) rfl (fun ls hl => ?_)
    have hl_10 : ∀ (n9 : Nat) (k5 : Nat) (mc5 : Int32) (SA5 : Nat → Option Nat) (H : Heap) (locs : List Loc) (ls : Array Slot), k5 < n9 → (dn ≤ k5 ∧ k5 ≤ nz) → (∀ i, i < k5 → SA5 i = SA i) → va_P (dC, dI) classes ([(oc8 x (.ref sh) (.ref lw) (.ref ro) (.ref bq) (.ref bp) (.ref dq) (.ref dp) (.ref lv) (.ref sl) (nI dn) sd ul su), (oc10 sl mc5 (.ref ea) (nI k5)), (oq ea cO cap5 SA5)] ++ va_pl T_1 f) H → va_D A ([(oc8 x (.ref sh) (.ref lw) (.ref ro) (.ref bq) (.ref bp) (.ref dq) (.ref dp) (.ref lv) (.ref sl) (nI dn) sd ul su), (oc10 sl mc5 (.ref ea) (nI k5)), (oq ea cO cap5 SA5)] ++ va_pl T_1 f) → va_S A s.heap H locs → lv_has ls 2 [(1, .int (iI (((k5 : Nat) : Int) - 1))), (0, .ref x)] → W p l e ((headSpec (.code yX10_forgetUndone cX10_forgetUndone 2 none :: ws0) ({ frames := 3, cells := 0, slots := 0, locals := 66 } : Room)).room) s m ([.ref x] : List Value).toArray below meth c H locs 0 0 Q9 (F0 m 10 ls []) := by
      intro n9
      induction n9 with
      | zero => intro k5 mc5 SA5 H locs ls hm; exact absurd hm (Nat.not_lt_zero _)
      | succ n9 ih_10 =>
        intro k5 mc5 SA5 H locs ls hm hk5 hsk hP hD hS hl
        refine lv_iload_n hx hb dX10_forgetUndone_10 rfl (lv_at hl 0 rfl) ?_
        refine lv_aload_n hx hb dX10_forgetUndone_11 rfl (lv_at hl 1 rfl) ?_
        refine va_get (D := (dC, dI)) (ci := 8) (v := .int (nI dn)) (C := RX10) (T := TX10) (N := 13) hx hb hts inX10 hown hK hP 0 rfl rfl 9 (by decide) (hts _ mw_318) (fun _ h9 => h9) rfl dX10_forgetUndone_12 ?_
        refine lv_icmp_lt (tgt := 37) hx hb dX10_forgetUndone_15 (by decide) (fun c_2 => ?_) (fun c_2 => ?_)
        · have c_2 : (((k5 : Nat) : Int) - 1) < ((dn : Nat) : Int) := zc_lt (iI_toInt (by omega)) (nI_toInt (by omega)) c_2
          have hP : va_P (dC, dI) classes (([(oc8 x (.ref sh) (.ref lw) (.ref ro) (.ref bq) (.ref bp) (.ref dq) (.ref dp) (.ref lv) (.ref sl) (nI dn) sd ul su), (oc10 sl mc5 (.ref ea) (nI k5))] ++ [(oq ea cO cap5 SA5)]) ++ va_pl T_1 f) H := hP
          have hD : va_D A (([(oc8 x (.ref sh) (.ref lw) (.ref ro) (.ref bq) (.ref bp) (.ref dq) (.ref dp) (.ref lv) (.ref sl) (nI dn) sd ul su), (oc10 sl mc5 (.ref ea) (nI k5))] ++ [(oq ea cO cap5 SA5)]) ++ va_pl T_1 f) := hD
          obtain ⟨Lp1, fp1, hP, hD, hpin_1⟩ := pl_pin (cs := [(oq ea cO cap5 SA)]) (old := [(oq ea cO cap5 SA5)]) (new := []) (cs1 := [(oq ea cO cap5 SA5)]) (X := [(oc8 x (.ref sh) (.ref lw) (.ref ro) (.ref bq) (.ref bp) (.ref dq) (.ref dp) (.ref lv) (.ref sl) (nI dn) sd ul su), (oc10 sl mc5 (.ref ea) (nI k5))]) (L := L) (f := f) rfl rfl (by rw [hT_1]; exact hP) (by rw [hT_1]; exact hD)
          obtain ⟨hfr_1, hkp_1, hce_1, hsx_1, hpw_1⟩ := id hpin_1
          have hkq := hkp_1 own own (fun g => g ≠ 8002) (fun _ _ => rfl) ⟨fun _ hp => absurd hce5.2.2 hp, trivial⟩
          have hLq : LsA cO Lp1 fp1 own e0 ea dn SA5 := Or.inr ⟨cap5, hce_1 own 0 _ _ _ rfl hce5.2.2, by omega, hcap5.1, hcap5.2, fun i hi => by obtain ⟨y, vs, g1, g2⟩ := hent i (by omega); exact ⟨y, vs, by rw [hsk i (by omega)]; exact g1, hkq _ _ _ (by omega) g2⟩⟩
          have hP9 := hP.part (cx := [(oc8 x (.ref sh) (.ref lw) (.ref ro) (.ref bq) (.ref bp) (.ref dq) (.ref dp) (.ref lv) (.ref sl) (nI dn) sd ul su), (oc10 sl mc5 (.ref ea) (nI k5))]) [0, 1] rfl
          have hD9 := hD.part (cx := [(oc8 x (.ref sh) (.ref lw) (.ref ro) (.ref bq) (.ref bp) (.ref dq) (.ref dp) (.ref lv) (.ref sl) (nI dn) sd ul su), (oc10 sl mc5 (.ref ea) (nI k5))]) [0, 1] (by decide) rfl
          have hE9 : (([(oc8 x (.ref sh) (.ref lw) (.ref ro) (.ref bq) (.ref bp) (.ref dq) (.ref dp) (.ref lv) (.ref sl) (nI dn) sd ul su), (oc10 sl mc5 (.ref ea) (nI k5))] ++ va_pl Lp1 fp1) : va_W) = ([(oc8 x (.ref sh) (.ref lw) (.ref ro) (.ref bq) (.ref bp) (.ref dq) (.ref dp) (.ref lv) (.ref sl) (nI dn) sd ul su), (oc10 sl mc5 (.ref ea) (nI dn))] ++ va_pl Lp1 fp1) := by rw [show k5 = dn by omega]
          rw [hE9] at hP9 hD9
          rw [hQ9]
          exact W.vret hx hb hr (fun t ht hW => ⟨⟨rfl, mc5, Lp1, fp1, SA5, (hLq), (fun i hi => hsk i (by omega)), (hkq), by rw [ht]; exact hP9, hD9⟩, hS.F ht⟩) hS.2.2 dX10_forgetUndone_37
        · have c_2 : ((dn : Nat) : Int) ≤ (((k5 : Nat) : Int) - 1) := zc_nlt (iI_toInt (by omega)) (nI_toInt (by omega)) c_2
          refine lv_iload_n hx hb dX10_forgetUndone_18 rfl (lv_at hl 0 rfl) ?_
          refine lv_if_lt (tgt := 37) hx hb dX10_forgetUndone_19 (by decide) (fun c_3 => ?_) (fun c_3 => ?_)
          · have c_3 : (((k5 : Nat) : Int) - 1) < 0 := zc_lt (iI_toInt (by omega)) (by decide) c_3
            exfalso; omega
          · have c_3 : 0 ≤ (((k5 : Nat) : Int) - 1) := zc_nlt (iI_toInt (by omega)) (by decide) c_3
            obtain ⟨j5, hj5⟩ : ∃ j, k5 = j + 1 := ⟨k5 - 1, by omega⟩
            subst hj5
            obtain ⟨y5, vs5, hy5, hcy5⟩ := hent j5 (by omega)
            refine lv_aload_n hx hb dX10_forgetUndone_22 rfl (lv_at hl 1 rfl) ?_
            refine va_get (D := (dC, dI)) (ci := 8) (v := .ref sl) (C := RX10) (T := TX10) (N := 13) hx hb hts inX10 hown hK hP 0 rfl rfl 8 (by decide) (hts _ mw_317) (fun _ h9 => h9) rfl dX10_forgetUndone_23 ?_
            refine lv_iload_n hx hb dX10_forgetUndone_26 rfl (lv_at hl 0 rfl) ?_
            refine zz_i (v := nI j5) (ii_nat (by omega) (by omega)) ?_
            have hPc := hP.sub (ws' := [(oc10 sl mc5 (.ref ea) (nI (j5 + 1))), (oq ea cO cap5 SA5)]) [1, 2] rfl
            have hDc := hD.sub (ws' := [(oc10 sl mc5 (.ref ea) (nI (j5 + 1))), (oq ea cO cap5 SA5)]) [1, 2] (by decide) rfl
            have hFc := va_free (wc := [(oc10 sl mc5 (.ref ea) (nI (j5 + 1))), (oq ea cO cap5 SA5)]) hD hS hA [1, 2] rfl
            refine zcall (st1 := [.ref y5]) (va_runV (As := [.int (nI j5)]) (rest := []) ⟨hx, hb, hml, hown, hts⟩ (k_AL_remove l dC dI cI cZ cF H.size cO e0 mi sl ea mc5 j5 cap5 y5 SA5 (by rw [hsk j5 (by omega)]; exact hy5) (by omega) (by omega)) (cwV 1 hts (zz_gV mw_472 mw_473 mw_474 mw_109 mc_yJx4a65c_remove_915e3) rfl rfl rfl (by decide +kernel) ⟨Nat.le_of_ble_eq_true rfl, Nat.le_of_ble_eq_true rfl⟩) (zPVL (q0 := 0) (ci := 10) hPc hDc hK hXL hS hFc rfl rfl) rfl rfl hl.1 rfl (lv_room (Nat.le_of_ble_eq_true rfl)) dX10_forgetUndone_27 ⟨Nat.le_of_ble_eq_true rfl, Nat.le_of_ble_eq_true rfl⟩) hS hFc hFc rfl (fun t H1 locs ht hB hk1 hS => ?_)
            obtain ⟨hP1, hD1⟩ := hB
            rw [ht] at hP1
            obtain ⟨hP, hD⟩ := va_joinQ (wr := [(oc8 x (.ref sh) (.ref lw) (.ref ro) (.ref bq) (.ref bp) (.ref dq) (.ref dp) (.ref lv) (.ref sl) (nI dn) sd ul su)]) (w1 := [(oc10 sl (mc5 + 1) (.ref ea) (nI j5)), (oq ea cO cap5 (va_up SA5 j5 none))]) hP hD [1, 2] [0] rfl rfl (by decide) (by decide) hk1 hFc hP1 hD1
            clear hk1 hPc hDc hFc hP1 hD1 ht
            generalize H1 = H at hP hS ⊢
            have hP : va_P (dC, dI) classes ([(oc8 x (.ref sh) (.ref lw) (.ref ro) (.ref bq) (.ref bp) (.ref dq) (.ref dp) (.ref lv) (.ref sl) (nI dn) sd ul su), (oc10 sl (mc5 + 1) (.ref ea) (nI j5)), (oq ea cO cap5 (va_up SA5 j5 none))] ++ va_pl T_1 f) H := hP
            have hD : va_D A ([(oc8 x (.ref sh) (.ref lw) (.ref ro) (.ref bq) (.ref bp) (.ref dq) (.ref dp) (.ref lv) (.ref sl) (nI dn) sd ul su), (oc10 sl (mc5 + 1) (.ref ea) (nI j5)), (oq ea cO cap5 (va_up SA5 j5 none))] ++ va_pl T_1 f) := hD
            refine lv_pop hx hb dX10_forgetUndone_30 rfl ?_
            refine lv_iinc (v := iI ((((j5 + 1) : Nat) : Int) - 1 - 1)) (lv' := [(1, .int (iI ((((j5 + 1) : Nat) : Int) - 1 - 1))), (0, .ref x)]) hx hb dX10_forgetUndone_31 hl (k := 0) rfl (ii_dec (by omega)) (by decide) rfl (fun ls hl => ?_)
            refine lv_goto (tgt := 10) hx hb dX10_forgetUndone_34 (by decide) ?_
            have hl9 := lv_sub hl [0, 1] rfl
            have e9_1 : iI (((j5 : Nat) : Int) - 1) = (iI ((((j5 + 1) : Nat) : Int) - 1 - 1) : Int32) := by exact congrArg iI (by omega)
            have hl9 : lv_has ls 2 [(1, .int (iI (((j5 : Nat) : Int) - 1))), (0, .ref x)] := by rw [e9_1]; exact hl9
            exact ih_10 j5 (mc5 + 1) (va_up SA5 j5 none) H locs ls (by omega) (by omega) (by intro i hi; show (if i = j5 then none else SA5 i) = SA i; rw [if_neg (by omega)]; exact hsk i (by omega)) hP hD hS hl9
    have e9_1 : iI (((nz : Nat) : Int) - 1) = (iI (((nz : Nat) : Int) - 1) : Int32) := by rfl
    have hl9 : lv_has ls 2 [(1, .int (iI (((nz : Nat) : Int) - 1))), (0, .ref x)] := by rw [e9_1]; exact lv_sub hl [0, 1] rfl
    exact hl_10 _ nz mc9 SA H locs ls (Nat.lt_succ_self _) (by omega) (by intro i hi; rfl) hP hD hS hl9
set_option maxHeartbeats 4000000 in
set_option maxRecDepth 100000 in
theorem k_seal (l : Launch) (dC : Nat → ClassId) (dI : Nat → Nat → Nat) (cI cZ cF : ClassId) (sz : Nat) (cO : ClassId) (e0 : Nat) (mi : Nat) (x : Nat) (sh : Nat) (lw : Nat) (ro : Nat) (bq : Nat) (bp : Nat) (dq : Nat) (dp : Nat) (lv : Nat) (sl : Nat) (sd : Int32) (ul : Int32) (su : Int32) (sl : Nat) (ea : Nat) (nz : Nat) (mc9 : Int32) (dn : Nat) (SA : Nat → Option Nat) (L : List Nat) (f : Nat → va_E) (own : Nat → Nat) (hL : LsA cO L f own e0 ea nz SA) (hdn : dn ≤ nz) (hn5 : nz ≤ 512) : Met l yX10_seal (.code yX10_seal cX10_seal 1 (some .boolean) :: ws0) ({ frames := 4, cells := 0, slots := 0, locals := 87 } : Room) (va_Pc [.ref x] (zPre (dC, dI) classes (zTyO cI cZ cF cO) ([(oc8 x (.ref sh) (.ref lw) (.ref ro) (.ref bq) (.ref bp) (.ref dq) (.ref dp) (.ref lv) (.ref sl) (nI dn) sd ul su), (oc10 sl mc9 (.ref ea) (nI nz))] ++ va_pl L f) sz (zXL e0 mi (va_A ([(oc8 x (.ref sh) (.ref lw) (.ref ro) (.ref bq) (.ref bp) (.ref dq) (.ref dp) (.ref lv) (.ref sl) (nI dn) sd ul su), (oc10 sl mc9 (.ref ea) (nI nz))] ++ va_pl L f) sz)))) (zQ (some (.int 1)) (fun t => ∃ (mc1 : Int32), ∃ (L1 : List Nat), ∃ (f1 : Nat → va_E), ∃ (SA1 : Nat → Option Nat), (LsA cO L1 f1 own e0 ea dn SA1) ∧ (∀ i, i < dn → SA1 i = SA i) ∧ (kpT (fun g => g ≠ 8002) L f own L1 f1 own) ∧ va_P (dC, dI) classes ([(oc8 x (.ref sh) (.ref lw) (.ref ro) (.ref bq) (.ref bp) (.ref dq) (.ref dp) (.ref lv) (.ref sl) (nI dn) (nI dn) ul 0), (oc10 sl mc1 (.ref ea) (nI dn))] ++ va_pl L1 f1) t.heap ∧ va_D (va_A ([(oc8 x (.ref sh) (.ref lw) (.ref ro) (.ref bq) (.ref bp) (.ref dq) (.ref dp) (.ref lv) (.ref sl) (nI dn) sd ul su), (oc10 sl mc9 (.ref ea) (nI nz))] ++ va_pl L f) sz) ([(oc8 x (.ref sh) (.ref lw) (.ref ro) (.ref bq) (.ref bp) (.ref dq) (.ref dp) (.ref lv) (.ref sl) (nI dn) (nI dn) ul 0), (oc10 sl mc1 (.ref ea) (nI dn))] ++ va_pl L1 f1)) (va_A ([(oc8 x (.ref sh) (.ref lw) (.ref ro) (.ref bq) (.ref bp) (.ref dq) (.ref dp) (.ref lv) (.ref sl) (nI dn) sd ul su), (oc10 sl mc9 (.ref ea) (nI nz))] ++ va_pl L f) sz)) 0 0 (va_A ([(oc8 x (.ref sh) (.ref lw) (.ref ro) (.ref bq) (.ref bp) (.ref dq) (.ref dp) (.ref lv) (.ref sl) (nI dn) sd ul su), (oc10 sl mc9 (.ref ea) (nI nz))] ++ va_pl L f) sz) := by
  refine Met.ofW (cc := cX10_seal) (maxL := 1) (ret := (some .boolean)) (by decide) rfl ?_
  intro p e s m args below meth c s₁ B hml hv
  obtain ⟨rfl, hsz, hP, hK, hD0, hXL⟩ := hv
  have hx := B.exec
  have hb := B.bytes
  have hr := B.returns
  have hts0 := atoms_spec (ws := .code yX10_seal cX10_seal 1 (some .boolean) :: ws0) B.pre
  have hts : ∀ w9 ∈ ws0, w9.before ([.ref x] : List Value).toArray s = true := fun w9 h => hts0 w9 (List.mem_cons_of_mem _ h)
  have hown : s.vm.findClass "ScaleShop" = some m.cls := findClass_of_methodNamed B.named
  have hlocks := B.notSynchronized
  subst hsz
  have hD := hD0.self (sz := s.heap.size)
  clear hD0
  generalize hAe : va_A ([(oc8 x (.ref sh) (.ref lw) (.ref ro) (.ref bq) (.ref bp) (.ref dq) (.ref dp) (.ref lv) (.ref sl) (nI dn) sd ul su), (oc10 sl mc9 (.ref ea) (nI nz))] ++ va_pl L f) s.heap.size = A at hD hXL ⊢
  have hA : ∀ q : Nat, s.heap.size ≤ q → A q := fun q h => by rw [← hAe]; exact Or.inr h
  clear hAe
  have hS : va_S A s.heap s.heap [] := va_S.rf
  have hXN := hXL.1
  have hK3 := hK.sub [0, 1, 2] rfl
  have hP : va_P (dC, dI) classes ([(oc8 x (.ref sh) (.ref lw) (.ref ro) (.ref bq) (.ref bp) (.ref dq) (.ref dp) (.ref lv) (.ref sl) (nI dn) sd ul su), (oc10 sl mc9 (.ref ea) (nI nz))] ++ va_pl L f) s.heap := hP
  obtain ⟨Q9, hQ9⟩ : ∃ Q9 : State → Prop, Q9 = MQ below (zQ (some (.int 1)) (fun t => ∃ (mc1 : Int32), ∃ (L1 : List Nat), ∃ (f1 : Nat → va_E), ∃ (SA1 : Nat → Option Nat), (LsA cO L1 f1 own e0 ea dn SA1) ∧ (∀ i, i < dn → SA1 i = SA i) ∧ (kpT (fun g => g ≠ 8002) L f own L1 f1 own) ∧ va_P (dC, dI) classes ([(oc8 x (.ref sh) (.ref lw) (.ref ro) (.ref bq) (.ref bp) (.ref dq) (.ref dp) (.ref lv) (.ref sl) (nI dn) (nI dn) ul 0), (oc10 sl mc1 (.ref ea) (nI dn))] ++ va_pl L1 f1) t.heap ∧ va_D A ([(oc8 x (.ref sh) (.ref lw) (.ref ro) (.ref bq) (.ref bp) (.ref dq) (.ref dp) (.ref lv) (.ref sl) (nI dn) (nI dn) ul 0), (oc10 sl mc1 (.ref ea) (nI dn))] ++ va_pl L1 f1)) A) ([.ref x] : List Value).toArray s 0 0 A := ⟨_, rfl⟩
  rw [← hQ9]
  have hl := lv_entry ([.ref x]) (n := 1) (Nat.le_of_ble_eq_true rfl)
  rw [lg_entry_eq]
  generalize (lg_sl ([.ref x]) ++ List.replicate (1 - (lg_sl ([.ref x])).length) Slot.unset).toArray = ls at hl ⊢
  have hl : lv_has ls 1 [(0, .ref x)] := hl
  refine lv_aload_n hx hb dX10_seal_0 rfl (lv_at hl 0 rfl) ?_
  have hPc := hP.part (cx := [(oc8 x (.ref sh) (.ref lw) (.ref ro) (.ref bq) (.ref bp) (.ref dq) (.ref dp) (.ref lv) (.ref sl) (nI dn) sd ul su), (oc10 sl mc9 (.ref ea) (nI nz))]) [0, 1] rfl
  have hDc := hD.part (cx := [(oc8 x (.ref sh) (.ref lw) (.ref ro) (.ref bq) (.ref bp) (.ref dq) (.ref dp) (.ref lv) (.ref sl) (nI dn) sd ul su), (oc10 sl mc9 (.ref ea) (nI nz))]) [0, 1] (by decide) rfl
  have hFc := va_freeP (cx := [(oc8 x (.ref sh) (.ref lw) (.ref ro) (.ref bq) (.ref bp) (.ref dq) (.ref dp) (.ref lv) (.ref sl) (nI dn) sd ul su), (oc10 sl mc9 (.ref ea) (nI nz))]) hD hS hA [0, 1] rfl
  refine zcall (st1 := []) (va_runV (As := []) (rest := []) ⟨hx, hb, hml, hown, hts⟩ (k_forgetUndone l dC dI cI cZ cF s.heap.size cO e0 mi x sh lw ro bq bp dq dp lv sl sd ul su sl ea nz mc9 dn SA L f own (by assumption) (by omega) (by omega)) (cwV 0 hts (zz_gV mw_464 mw_466 mw_2 mw_99 mc_yX10_forgetUndone) rfl rfl rfl (by decide +kernel) ⟨Nat.le_of_ble_eq_true rfl, Nat.le_of_ble_eq_true rfl⟩) (zPVL (q0 := 0) (ci := 8) hPc hDc hK hXL hS hFc rfl rfl) rfl rfl hl.1 rfl (lv_room (Nat.le_of_ble_eq_true rfl)) dX10_seal_1 ⟨Nat.le_of_ble_eq_true rfl, Nat.le_of_ble_eq_true rfl⟩) hS hFc hFc rfl (fun t H1 locs ht hB hk1 hS => ?_)
  obtain ⟨mc1, L1, f1, SA1, hL1, hS1, hkA, hP1, hD1⟩ := hB
  rw [ht] at hP1
  obtain ⟨hP, hD⟩ := va_joinP (wr := []) (rx := [(oc8 x (.ref sh) (.ref lw) (.ref ro) (.ref bq) (.ref bp) (.ref dq) (.ref dp) (.ref lv) (.ref sl) (nI dn) sd ul su), (oc10 sl mc1 (.ref ea) (nI dn))]) hP hD [0, 1] [] rfl rfl (by decide) (by decide) hk1 hFc hP1 hD1
  clear hk1 hPc hDc hFc hP1 hD1 ht
  generalize H1 = H at hP hS ⊢
  have hP : va_P (dC, dI) classes ([(oc8 x (.ref sh) (.ref lw) (.ref ro) (.ref bq) (.ref bp) (.ref dq) (.ref dp) (.ref lv) (.ref sl) (nI dn) sd ul su), (oc10 sl mc1 (.ref ea) (nI dn))] ++ va_pl L1 f1) H := hP
  have hD : va_D A ([(oc8 x (.ref sh) (.ref lw) (.ref ro) (.ref bq) (.ref bp) (.ref dq) (.ref dp) (.ref lv) (.ref sl) (nI dn) sd ul su), (oc10 sl mc1 (.ref ea) (nI dn))] ++ va_pl L1 f1) := hD
  refine lv_aload_n hx hb dX10_seal_4 rfl (lv_at hl 0 rfl) ?_
  refine lv_aload_n hx hb dX10_seal_5 rfl (lv_at hl 0 rfl) ?_
  refine va_get (D := (dC, dI)) (ci := 8) (v := .int (nI dn)) (C := RX10) (T := TX10) (N := 13) hx hb hts inX10 hown hK hP 0 rfl rfl 9 (by decide) (hts _ mw_318) (fun _ h9 => h9) rfl dX10_seal_6 ?_
  refine va_put (D := (dC, dI)) (ci := 8) (v := .int (nI dn)) (ty := .int) (C := RX10) (T := TX10) (N := 13) hx hb hts inX10 tyX10 tyX10_ok nmX10 hown hK hP hD hS 0 rfl rfl 10 (by decide) (hts _ mw_319) (fun _ h9 => h9) rfl (by decide +kernel) rfl rfl (Nat.le_of_ble_eq_true rfl) dX10_seal_9 (fun H locs hP hD hS => ?_)
  have hP : va_P (dC, dI) classes ([(oc8 x (.ref sh) (.ref lw) (.ref ro) (.ref bq) (.ref bp) (.ref dq) (.ref dp) (.ref lv) (.ref sl) (nI dn) (nI dn) ul su), (oc10 sl mc1 (.ref ea) (nI dn))] ++ va_pl L1 f1) H := hP
  have hD : va_D A ([(oc8 x (.ref sh) (.ref lw) (.ref ro) (.ref bq) (.ref bp) (.ref dq) (.ref dp) (.ref lv) (.ref sl) (nI dn) (nI dn) ul su), (oc10 sl mc1 (.ref ea) (nI dn))] ++ va_pl L1 f1) := hD
  refine lv_aload_n hx hb dX10_seal_12 rfl (lv_at hl 0 rfl) ?_
  refine lv_iconst (v := 0) hx hb dX10_seal_13 (by decide) ?_
  refine va_put (D := (dC, dI)) (ci := 8) (v := .int 0) (ty := .int) (C := RX10) (T := TX10) (N := 13) hx hb hts inX10 tyX10 tyX10_ok nmX10 hown hK hP hD hS 0 rfl rfl 12 (by decide) (hts _ mw_321) (fun _ h9 => h9) rfl (by decide +kernel) rfl rfl (Nat.le_of_ble_eq_true rfl) dX10_seal_14 (fun H locs hP hD hS => ?_)
  have hP : va_P (dC, dI) classes ([(oc8 x (.ref sh) (.ref lw) (.ref ro) (.ref bq) (.ref bp) (.ref dq) (.ref dp) (.ref lv) (.ref sl) (nI dn) (nI dn) ul 0), (oc10 sl mc1 (.ref ea) (nI dn))] ++ va_pl L1 f1) H := hP
  have hD : va_D A ([(oc8 x (.ref sh) (.ref lw) (.ref ro) (.ref bq) (.ref bp) (.ref dq) (.ref dp) (.ref lv) (.ref sl) (nI dn) (nI dn) ul 0), (oc10 sl mc1 (.ref ea) (nI dn))] ++ va_pl L1 f1) := hD
  refine lv_iconst (v := 1) hx hb dX10_seal_17 (by decide) ?_
  have hP9 := hP.part (cx := [(oc8 x (.ref sh) (.ref lw) (.ref ro) (.ref bq) (.ref bp) (.ref dq) (.ref dp) (.ref lv) (.ref sl) (nI dn) (nI dn) ul 0), (oc10 sl mc1 (.ref ea) (nI dn))]) [0, 1] rfl
  have hD9 := hD.part (cx := [(oc8 x (.ref sh) (.ref lw) (.ref ro) (.ref bq) (.ref bp) (.ref dq) (.ref dp) (.ref lv) (.ref sl) (nI dn) (nI dn) ul 0), (oc10 sl mc1 (.ref ea) (nI dn))]) [0, 1] (by decide) rfl
  rw [hQ9]
  exact W.zret (ty := .boolean) (v := 1) hx hb hr (rfl) (fun t ht hW => ⟨⟨rfl, mc1, L1, f1, SA1, (hL1), (hS1), (hkA), by rw [ht]; exact hP9, hD9⟩, hS.F ht⟩) hS.2.2 dX10_seal_18
