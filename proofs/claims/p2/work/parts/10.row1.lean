set_option maxHeartbeats 4000000 in
set_option maxRecDepth 100000 in
theorem k_Row_next (l : Launch) (dC : Nat → ClassId) (dI : Nat → Nat → Nat) (cI cZ cF : ClassId) (sz : Nat) (r : Nat) (rx : Nat) (ry : Nat) (n : Nat) (cap : Nat) (X : Nat → Int32) (Y : Nat → Int32) (rg : Int32) (i : Nat) (hn : n ≤ cap) (hcap : cap ≤ 1000) (hi : i < n) : Met l yX7_next (.code yX7_next cX7_next 2 (some .int) :: ws0) ({ frames := 0, cells := 0, slots := 0, locals := 0 } : Room) (va_Pc [.ref r, .int (nI i)] (zPre (dC, dI) classes (zTy cI cZ cF) [(oc6 r (.ref rx) (.ref ry) (nI n) rg), (oa rx cI cap X), (oa ry cI cap Y)] sz zXN)) (zQ (some (.int (nI (nxt n i)))) (fun t => va_P (dC, dI) classes [(oc6 r (.ref rx) (.ref ry) (nI n) rg), (oa rx cI cap X), (oa ry cI cap Y)] t.heap ∧ va_D (va_A [(oc6 r (.ref rx) (.ref ry) (nI n) rg), (oa rx cI cap X), (oa ry cI cap Y)] sz) [(oc6 r (.ref rx) (.ref ry) (nI n) rg), (oa rx cI cap X), (oa ry cI cap Y)]) (va_A [(oc6 r (.ref rx) (.ref ry) (nI n) rg), (oa rx cI cap X), (oa ry cI cap Y)] sz)) 0 0 (va_A [(oc6 r (.ref rx) (.ref ry) (nI n) rg), (oa rx cI cap X), (oa ry cI cap Y)] sz) := by
  refine Met.ofW (cc := cX7_next) (maxL := 2) (ret := (some .int)) (by decide) rfl ?_
  intro p e s m args below meth c s₁ B hml hv
  obtain ⟨rfl, hsz, hP, hK, hD0, hXN⟩ := hv
  have hx := B.exec
  have hb := B.bytes
  have hr := B.returns
  have hts0 := atoms_spec (ws := .code yX7_next cX7_next 2 (some .int) :: ws0) B.pre
  have hts : ∀ w9 ∈ ws0, w9.before ([.ref r, .int (nI i)] : List Value).toArray s = true := fun w9 h => hts0 w9 (List.mem_cons_of_mem _ h)
  have hown : s.vm.findClass "ScaleShop$Row" = some m.cls := findClass_of_methodNamed B.named
  have hlocks := B.notSynchronized
  subst hsz
  have hD := hD0.self (sz := s.heap.size)
  clear hD0
  generalize hAe : va_A [(oc6 r (.ref rx) (.ref ry) (nI n) rg), (oa rx cI cap X), (oa ry cI cap Y)] s.heap.size = A at hD ⊢
  have hA : ∀ q : Nat, s.heap.size ≤ q → A q := fun q h => by rw [← hAe]; exact Or.inr h
  clear hAe
  have hS : va_S A s.heap s.heap [] := va_S.rf
  have hP : va_P (dC, dI) classes [(oc6 r (.ref rx) (.ref ry) (nI n) rg), (oa rx cI cap X), (oa ry cI cap Y)] s.heap := hP
  obtain ⟨Q9, hQ9⟩ : ∃ Q9 : State → Prop, Q9 = MQ below (zQ (some (.int (nI (nxt n i)))) (fun t => va_P (dC, dI) classes [(oc6 r (.ref rx) (.ref ry) (nI n) rg), (oa rx cI cap X), (oa ry cI cap Y)] t.heap ∧ va_D A [(oc6 r (.ref rx) (.ref ry) (nI n) rg), (oa rx cI cap X), (oa ry cI cap Y)]) A) ([.ref r, .int (nI i)] : List Value).toArray s 0 0 A := ⟨_, rfl⟩
  rw [← hQ9]
  have hl := lv_entry ([.ref r, .int (nI i)]) (n := 2) (Nat.le_of_ble_eq_true rfl)
  rw [lg_entry_eq]
  generalize (lg_sl ([.ref r, .int (nI i)]) ++ List.replicate (2 - (lg_sl ([.ref r, .int (nI i)])).length) Slot.unset).toArray = ls at hl ⊢
  have hl : lv_has ls 2 [(0, .ref r), (1, .int (nI i))] := hl
  refine lv_iload_n hx hb dX7_next_0 rfl (lv_at hl 1 rfl) ?_
  refine lv_iconst (v := 1) hx hb dX7_next_1 (by decide) ?_
  refine lv_iadd hx hb dX7_next_2 ?_
  refine zz_i (v := nI (i + 1)) (nI_add i 1) ?_
  refine lv_aload_n hx hb dX7_next_3 rfl (lv_at hl 0 rfl) ?_
  refine va_get (D := (dC, dI)) (ci := 6) (v := .int (nI n)) (C := RX7) (T := TX7) (N := 4) hx hb hts inX7 hown hK hP 0 rfl rfl 2 (by decide) (hts _ mw_175) (fun _ h9 => h9) rfl dX7_next_4 ?_
  have hj_1 : W p l e ((headSpec (.code yX7_next cX7_next 2 (some .int) :: ws0) ({ frames := 0, cells := 0, slots := 0, locals := 0 } : Room)).room) s m ([.ref r, .int (nI i)] : List Value).toArray below meth c s.heap [] 0 0 Q9 (F0 m 17 ls [.int (nI (nxt n i))]) := by
    have hP9 := hP.sub (ws' := [(oc6 r (.ref rx) (.ref ry) (nI n) rg), (oa rx cI cap X), (oa ry cI cap Y)]) [0, 1, 2] rfl
    have hD9 := hD.sub (ws' := [(oc6 r (.ref rx) (.ref ry) (nI n) rg), (oa rx cI cap X), (oa ry cI cap Y)]) [0, 1, 2] (by decide) rfl
    rw [hQ9]
    exact W.iret (v := nI (nxt n i)) hx hb hr (fun t ht hW => ⟨⟨rfl, by rw [ht]; exact hP9, hD9⟩, hS.F ht⟩) hS.2.2 dX7_next_17
  refine lv_icmp_ge (tgt := 16) hx hb dX7_next_7 (by decide) (fun c_2 => ?_) (fun c_2 => ?_)
  · have c_2 : ((n : Nat) : Int) ≤ ((i + 1 : Nat) : Int) := zc_le (nI_toInt (by omega)) (nI_toInt (by omega)) c_2
    refine lv_iconst (v := 0) hx hb dX7_next_16 (by decide) ?_
    refine zz_i (v := nI (nxt n i)) (by first | (rw [nxt, if_pos (by omega)]) | (rw [nxt, if_neg (by omega)]; first | done | rfl)) ?_
    exact hj_1 
  · have c_2 : ((i + 1 : Nat) : Int) < ((n : Nat) : Int) := zc_nle (nI_toInt (by omega)) (nI_toInt (by omega)) c_2
    refine lv_iload_n hx hb dX7_next_10 rfl (lv_at hl 1 rfl) ?_
    refine lv_iconst (v := 1) hx hb dX7_next_11 (by decide) ?_
    refine lv_iadd hx hb dX7_next_12 ?_
    refine zz_i (v := nI (i + 1)) (nI_add i 1) ?_
    refine lv_goto (tgt := 17) hx hb dX7_next_13 (by decide) ?_
    refine zz_i (v := nI (nxt n i)) (by first | (rw [nxt, if_pos (by omega)]) | (rw [nxt, if_neg (by omega)]; first | done | rfl)) ?_
    exact hj_1 
set_option maxHeartbeats 4000000 in
set_option maxRecDepth 100000 in
theorem k_Row_previous (l : Launch) (dC : Nat → ClassId) (dI : Nat → Nat → Nat) (cI cZ cF : ClassId) (sz : Nat) (r : Nat) (rx : Nat) (ry : Nat) (n : Nat) (cap : Nat) (X : Nat → Int32) (Y : Nat → Int32) (rg : Int32) (i : Nat) (hn : n ≤ cap) (hcap : cap ≤ 1000) (hi : i < n) : Met l yX7_previous (.code yX7_previous cX7_previous 2 (some .int) :: ws0) ({ frames := 0, cells := 0, slots := 0, locals := 0 } : Room) (va_Pc [.ref r, .int (nI i)] (zPre (dC, dI) classes (zTy cI cZ cF) [(oc6 r (.ref rx) (.ref ry) (nI n) rg), (oa rx cI cap X), (oa ry cI cap Y)] sz zXN)) (zQ (some (.int (nI (prv n i)))) (fun t => va_P (dC, dI) classes [(oc6 r (.ref rx) (.ref ry) (nI n) rg), (oa rx cI cap X), (oa ry cI cap Y)] t.heap ∧ va_D (va_A [(oc6 r (.ref rx) (.ref ry) (nI n) rg), (oa rx cI cap X), (oa ry cI cap Y)] sz) [(oc6 r (.ref rx) (.ref ry) (nI n) rg), (oa rx cI cap X), (oa ry cI cap Y)]) (va_A [(oc6 r (.ref rx) (.ref ry) (nI n) rg), (oa rx cI cap X), (oa ry cI cap Y)] sz)) 0 0 (va_A [(oc6 r (.ref rx) (.ref ry) (nI n) rg), (oa rx cI cap X), (oa ry cI cap Y)] sz) := by
  refine Met.ofW (cc := cX7_previous) (maxL := 2) (ret := (some .int)) (by decide) rfl ?_
  intro p e s m args below meth c s₁ B hml hv
  obtain ⟨rfl, hsz, hP, hK, hD0, hXN⟩ := hv
  have hx := B.exec
  have hb := B.bytes
  have hr := B.returns
  have hts0 := atoms_spec (ws := .code yX7_previous cX7_previous 2 (some .int) :: ws0) B.pre
  have hts : ∀ w9 ∈ ws0, w9.before ([.ref r, .int (nI i)] : List Value).toArray s = true := fun w9 h => hts0 w9 (List.mem_cons_of_mem _ h)
  have hown : s.vm.findClass "ScaleShop$Row" = some m.cls := findClass_of_methodNamed B.named
  have hlocks := B.notSynchronized
  subst hsz
  have hD := hD0.self (sz := s.heap.size)
  clear hD0
  generalize hAe : va_A [(oc6 r (.ref rx) (.ref ry) (nI n) rg), (oa rx cI cap X), (oa ry cI cap Y)] s.heap.size = A at hD ⊢
  have hA : ∀ q : Nat, s.heap.size ≤ q → A q := fun q h => by rw [← hAe]; exact Or.inr h
  clear hAe
  have hS : va_S A s.heap s.heap [] := va_S.rf
  have hP : va_P (dC, dI) classes [(oc6 r (.ref rx) (.ref ry) (nI n) rg), (oa rx cI cap X), (oa ry cI cap Y)] s.heap := hP
  obtain ⟨Q9, hQ9⟩ : ∃ Q9 : State → Prop, Q9 = MQ below (zQ (some (.int (nI (prv n i)))) (fun t => va_P (dC, dI) classes [(oc6 r (.ref rx) (.ref ry) (nI n) rg), (oa rx cI cap X), (oa ry cI cap Y)] t.heap ∧ va_D A [(oc6 r (.ref rx) (.ref ry) (nI n) rg), (oa rx cI cap X), (oa ry cI cap Y)]) A) ([.ref r, .int (nI i)] : List Value).toArray s 0 0 A := ⟨_, rfl⟩
  rw [← hQ9]
  have hl := lv_entry ([.ref r, .int (nI i)]) (n := 2) (Nat.le_of_ble_eq_true rfl)
  rw [lg_entry_eq]
  generalize (lg_sl ([.ref r, .int (nI i)]) ++ List.replicate (2 - (lg_sl ([.ref r, .int (nI i)])).length) Slot.unset).toArray = ls at hl ⊢
  have hl : lv_has ls 2 [(0, .ref r), (1, .int (nI i))] := hl
  refine lv_iload_n hx hb dX7_previous_0 rfl (lv_at hl 1 rfl) ?_
  refine lv_if_le (tgt := 10) hx hb dX7_previous_1 (by decide) (fun c_1 => ?_) (fun c_1 => ?_)
  · have c_1 : ((i : Nat) : Int) ≤ 0 := zc_le (nI_toInt (by omega)) (by decide) c_1
    refine lv_aload_n hx hb dX7_previous_10 rfl (lv_at hl 0 rfl) ?_
    refine va_get (D := (dC, dI)) (ci := 6) (v := .int (nI n)) (C := RX7) (T := TX7) (N := 4) hx hb hts inX7 hown hK hP 0 rfl rfl 2 (by decide) (hts _ mw_175) (fun _ h9 => h9) rfl dX7_previous_11 ?_
    refine lv_iconst (v := 1) hx hb dX7_previous_14 (by decide) ?_
    refine lv_isub hx hb dX7_previous_15 ?_
    refine zz_i (v := nI (n - 1)) (pk_sub (a := n) (b := 1) (by omega)) ?_
    have hP9 := hP.sub (ws' := [(oc6 r (.ref rx) (.ref ry) (nI n) rg), (oa rx cI cap X), (oa ry cI cap Y)]) [0, 1, 2] rfl
    have hD9 := hD.sub (ws' := [(oc6 r (.ref rx) (.ref ry) (nI n) rg), (oa rx cI cap X), (oa ry cI cap Y)]) [0, 1, 2] (by decide) rfl
    rw [hQ9]
    exact W.iret (v := nI (n - 1)) hx hb hr (fun t ht hW => ⟨⟨congrArg (fun z => Outcome.returned (some (Value.int z))) (show (nI (n - 1) : Int32) = nI (prv n i) from zn_eq (by unfold prv; split <;> omega)), by rw [ht]; exact hP9, hD9⟩, hS.F ht⟩) hS.2.2 dX7_previous_16
  · have c_1 : 0 < ((i : Nat) : Int) := zc_nle (nI_toInt (by omega)) (by decide) c_1
    refine lv_iload_n hx hb dX7_previous_4 rfl (lv_at hl 1 rfl) ?_
    refine lv_iconst (v := 1) hx hb dX7_previous_5 (by decide) ?_
    refine lv_isub hx hb dX7_previous_6 ?_
    refine zz_i (v := nI (i - 1)) (pk_sub (a := i) (b := 1) (by omega)) ?_
    refine lv_goto (tgt := 16) hx hb dX7_previous_7 (by decide) ?_
    have hP9 := hP.sub (ws' := [(oc6 r (.ref rx) (.ref ry) (nI n) rg), (oa rx cI cap X), (oa ry cI cap Y)]) [0, 1, 2] rfl
    have hD9 := hD.sub (ws' := [(oc6 r (.ref rx) (.ref ry) (nI n) rg), (oa rx cI cap X), (oa ry cI cap Y)]) [0, 1, 2] (by decide) rfl
    rw [hQ9]
    exact W.iret (v := nI (i - 1)) hx hb hr (fun t ht hW => ⟨⟨congrArg (fun z => Outcome.returned (some (Value.int z))) (show (nI (i - 1) : Int32) = nI (prv n i) from zn_eq (by unfold prv; split <;> omega)), by rw [ht]; exact hP9, hD9⟩, hS.F ht⟩) hS.2.2 dX7_previous_16
set_option maxHeartbeats 4000000 in
set_option maxRecDepth 100000 in
theorem k_Row_edges (l : Launch) (dC : Nat → ClassId) (dI : Nat → Nat → Nat) (cI cZ cF : ClassId) (sz : Nat) (r : Nat) (rx : Nat) (ry : Nat) (n : Nat) (cap : Nat) (X : Nat → Int32) (Y : Nat → Int32) (rg : Int32) (hn : n ≤ cap) (hcap : cap ≤ 1000) : Met l yX7_edges (.code yX7_edges cX7_edges 1 (some .int) :: ws0) ({ frames := 0, cells := 0, slots := 0, locals := 0 } : Room) (va_Pc [.ref r] (zPre (dC, dI) classes (zTy cI cZ cF) [(oc6 r (.ref rx) (.ref ry) (nI n) rg), (oa rx cI cap X), (oa ry cI cap Y)] sz zXN)) (zQ (some (.int (nI (edg n rg)))) (fun t => va_P (dC, dI) classes [(oc6 r (.ref rx) (.ref ry) (nI n) rg), (oa rx cI cap X), (oa ry cI cap Y)] t.heap ∧ va_D (va_A [(oc6 r (.ref rx) (.ref ry) (nI n) rg), (oa rx cI cap X), (oa ry cI cap Y)] sz) [(oc6 r (.ref rx) (.ref ry) (nI n) rg), (oa rx cI cap X), (oa ry cI cap Y)]) (va_A [(oc6 r (.ref rx) (.ref ry) (nI n) rg), (oa rx cI cap X), (oa ry cI cap Y)] sz)) 0 0 (va_A [(oc6 r (.ref rx) (.ref ry) (nI n) rg), (oa rx cI cap X), (oa ry cI cap Y)] sz) := by
  refine Met.ofW (cc := cX7_edges) (maxL := 1) (ret := (some .int)) (by decide) rfl ?_
  intro p e s m args below meth c s₁ B hml hv
  obtain ⟨rfl, hsz, hP, hK, hD0, hXN⟩ := hv
  have hx := B.exec
  have hb := B.bytes
  have hr := B.returns
  have hts0 := atoms_spec (ws := .code yX7_edges cX7_edges 1 (some .int) :: ws0) B.pre
  have hts : ∀ w9 ∈ ws0, w9.before ([.ref r] : List Value).toArray s = true := fun w9 h => hts0 w9 (List.mem_cons_of_mem _ h)
  have hown : s.vm.findClass "ScaleShop$Row" = some m.cls := findClass_of_methodNamed B.named
  have hlocks := B.notSynchronized
  subst hsz
  have hD := hD0.self (sz := s.heap.size)
  clear hD0
  generalize hAe : va_A [(oc6 r (.ref rx) (.ref ry) (nI n) rg), (oa rx cI cap X), (oa ry cI cap Y)] s.heap.size = A at hD ⊢
  have hA : ∀ q : Nat, s.heap.size ≤ q → A q := fun q h => by rw [← hAe]; exact Or.inr h
  clear hAe
  have hS : va_S A s.heap s.heap [] := va_S.rf
  have hP : va_P (dC, dI) classes [(oc6 r (.ref rx) (.ref ry) (nI n) rg), (oa rx cI cap X), (oa ry cI cap Y)] s.heap := hP
  obtain ⟨Q9, hQ9⟩ : ∃ Q9 : State → Prop, Q9 = MQ below (zQ (some (.int (nI (edg n rg)))) (fun t => va_P (dC, dI) classes [(oc6 r (.ref rx) (.ref ry) (nI n) rg), (oa rx cI cap X), (oa ry cI cap Y)] t.heap ∧ va_D A [(oc6 r (.ref rx) (.ref ry) (nI n) rg), (oa rx cI cap X), (oa ry cI cap Y)]) A) ([.ref r] : List Value).toArray s 0 0 A := ⟨_, rfl⟩
  rw [← hQ9]
  have hl := lv_entry ([.ref r]) (n := 1) (Nat.le_of_ble_eq_true rfl)
  rw [lg_entry_eq]
  generalize (lg_sl ([.ref r]) ++ List.replicate (1 - (lg_sl ([.ref r])).length) Slot.unset).toArray = ls at hl ⊢
  have hl : lv_has ls 1 [(0, .ref r)] := hl
  refine lv_aload_n hx hb dX7_edges_0 rfl (lv_at hl 0 rfl) ?_
  refine va_get (D := (dC, dI)) (ci := 6) (v := .int (nI n)) (C := RX7) (T := TX7) (N := 4) hx hb hts inX7 hown hK hP 0 rfl rfl 2 (by decide) (hts _ mw_175) (fun _ h9 => h9) rfl dX7_edges_1 ?_
  refine lv_iconst (v := 2) hx hb dX7_edges_4 (by decide) ?_
  refine lv_icmp_ge (tgt := 10) hx hb dX7_edges_5 (by decide) (fun c_1 => ?_) (fun c_1 => ?_)
  · have c_1 : 2 ≤ ((n : Nat) : Int) := zc_le (by decide) (nI_toInt (by omega)) c_1
    refine lv_aload_n hx hb dX7_edges_10 rfl (lv_at hl 0 rfl) ?_
    refine va_get (D := (dC, dI)) (ci := 6) (v := .int rg) (C := RX7) (T := TX7) (N := 4) hx hb hts inX7 hown hK hP 0 rfl rfl 3 (by decide) (hts _ mw_183) (fun _ h9 => h9) rfl dX7_edges_11 ?_
    refine lv_if_eq (tgt := 24) hx hb dX7_edges_14 (by decide) (fun c_2 => ?_) (fun c_2 => ?_)
    · have c_2 : rg.toInt = 0 := zc_eq rfl (by decide) c_2
      refine lv_aload_n hx hb dX7_edges_24 rfl (lv_at hl 0 rfl) ?_
      refine va_get (D := (dC, dI)) (ci := 6) (v := .int (nI n)) (C := RX7) (T := TX7) (N := 4) hx hb hts inX7 hown hK hP 0 rfl rfl 2 (by decide) (hts _ mw_175) (fun _ h9 => h9) rfl dX7_edges_25 ?_
      refine lv_iconst (v := 1) hx hb dX7_edges_28 (by decide) ?_
      refine lv_isub hx hb dX7_edges_29 ?_
      refine zz_i (v := nI (n - 1)) (pk_sub (a := n) (b := 1) (by omega)) ?_
      have hP9 := hP.sub (ws' := [(oc6 r (.ref rx) (.ref ry) (nI n) rg), (oa rx cI cap X), (oa ry cI cap Y)]) [0, 1, 2] rfl
      have hD9 := hD.sub (ws' := [(oc6 r (.ref rx) (.ref ry) (nI n) rg), (oa rx cI cap X), (oa ry cI cap Y)]) [0, 1, 2] (by decide) rfl
      rw [hQ9]
      exact W.iret (v := nI (n - 1)) hx hb hr (fun t ht hW => ⟨⟨congrArg (fun z => Outcome.returned (some (Value.int z))) (show (nI (n - 1) : Int32) = nI (edg n rg) from zn_eq (by unfold edg; split <;> (try split) <;> omega)), by rw [ht]; exact hP9, hD9⟩, hS.F ht⟩) hS.2.2 dX7_edges_30
    · have c_2 : ¬ rg.toInt = 0 := zc_ne rfl (by decide) c_2
      refine lv_aload_n hx hb dX7_edges_17 rfl (lv_at hl 0 rfl) ?_
      refine va_get (D := (dC, dI)) (ci := 6) (v := .int (nI n)) (C := RX7) (T := TX7) (N := 4) hx hb hts inX7 hown hK hP 0 rfl rfl 2 (by decide) (hts _ mw_175) (fun _ h9 => h9) rfl dX7_edges_18 ?_
      refine lv_goto (tgt := 30) hx hb dX7_edges_21 (by decide) ?_
      have hP9 := hP.sub (ws' := [(oc6 r (.ref rx) (.ref ry) (nI n) rg), (oa rx cI cap X), (oa ry cI cap Y)]) [0, 1, 2] rfl
      have hD9 := hD.sub (ws' := [(oc6 r (.ref rx) (.ref ry) (nI n) rg), (oa rx cI cap X), (oa ry cI cap Y)]) [0, 1, 2] (by decide) rfl
      rw [hQ9]
      exact W.iret (v := nI n) hx hb hr (fun t ht hW => ⟨⟨congrArg (fun z => Outcome.returned (some (Value.int z))) (show (nI n : Int32) = nI (edg n rg) from zn_eq (by unfold edg; split <;> (try split) <;> omega)), by rw [ht]; exact hP9, hD9⟩, hS.F ht⟩) hS.2.2 dX7_edges_30
  · have c_1 : ((n : Nat) : Int) < 2 := zc_nle (by decide) (nI_toInt (by omega)) c_1
    refine lv_iconst (v := 0) hx hb dX7_edges_8 (by decide) ?_
    have hP9 := hP.sub (ws' := [(oc6 r (.ref rx) (.ref ry) (nI n) rg), (oa rx cI cap X), (oa ry cI cap Y)]) [0, 1, 2] rfl
    have hD9 := hD.sub (ws' := [(oc6 r (.ref rx) (.ref ry) (nI n) rg), (oa rx cI cap X), (oa ry cI cap Y)]) [0, 1, 2] (by decide) rfl
    rw [hQ9]
    exact W.iret (v := 0) hx hb hr (fun t ht hW => ⟨⟨congrArg (fun z => Outcome.returned (some (Value.int z))) (show (0 : Int32) = nI (edg n rg) from zn_eq (by unfold edg; split <;> (try split) <;> omega)), by rw [ht]; exact hP9, hD9⟩, hS.F ht⟩) hS.2.2 dX7_edges_9
set_option maxHeartbeats 4000000 in
set_option maxRecDepth 100000 in
theorem k_Row_parts (l : Launch) (dC : Nat → ClassId) (dI : Nat → Nat → Nat) (cI cZ cF : ClassId) (sz : Nat) (r : Nat) (rx : Nat) (ry : Nat) (n : Nat) (cap : Nat) (X : Nat → Int32) (Y : Nat → Int32) (rg : Int32) (hn : n ≤ cap) (hcap : cap ≤ 1000) : Met l yX7_parts (.code yX7_parts cX7_parts 1 (some .int) :: ws0) ({ frames := 1, cells := 0, slots := 0, locals := 20 } : Room) (va_Pc [.ref r] (zPre (dC, dI) classes (zTy cI cZ cF) [(oc6 r (.ref rx) (.ref ry) (nI n) rg), (oa rx cI cap X), (oa ry cI cap Y)] sz zXN)) (zQ (some (.int (nI (prt n rg)))) (fun t => va_P (dC, dI) classes [(oc6 r (.ref rx) (.ref ry) (nI n) rg), (oa rx cI cap X), (oa ry cI cap Y)] t.heap ∧ va_D (va_A [(oc6 r (.ref rx) (.ref ry) (nI n) rg), (oa rx cI cap X), (oa ry cI cap Y)] sz) [(oc6 r (.ref rx) (.ref ry) (nI n) rg), (oa rx cI cap X), (oa ry cI cap Y)]) (va_A [(oc6 r (.ref rx) (.ref ry) (nI n) rg), (oa rx cI cap X), (oa ry cI cap Y)] sz)) 0 0 (va_A [(oc6 r (.ref rx) (.ref ry) (nI n) rg), (oa rx cI cap X), (oa ry cI cap Y)] sz) := by
  refine Met.ofW (cc := cX7_parts) (maxL := 1) (ret := (some .int)) (by decide) rfl ?_
  intro p e s m args below meth c s₁ B hml hv
  obtain ⟨rfl, hsz, hP, hK, hD0, hXN⟩ := hv
  have hx := B.exec
  have hb := B.bytes
  have hr := B.returns
  have hts0 := atoms_spec (ws := .code yX7_parts cX7_parts 1 (some .int) :: ws0) B.pre
  have hts : ∀ w9 ∈ ws0, w9.before ([.ref r] : List Value).toArray s = true := fun w9 h => hts0 w9 (List.mem_cons_of_mem _ h)
  have hown : s.vm.findClass "ScaleShop$Row" = some m.cls := findClass_of_methodNamed B.named
  have hlocks := B.notSynchronized
  subst hsz
  have hD := hD0.self (sz := s.heap.size)
  clear hD0
  generalize hAe : va_A [(oc6 r (.ref rx) (.ref ry) (nI n) rg), (oa rx cI cap X), (oa ry cI cap Y)] s.heap.size = A at hD ⊢
  have hA : ∀ q : Nat, s.heap.size ≤ q → A q := fun q h => by rw [← hAe]; exact Or.inr h
  clear hAe
  have hS : va_S A s.heap s.heap [] := va_S.rf
  have hP : va_P (dC, dI) classes [(oc6 r (.ref rx) (.ref ry) (nI n) rg), (oa rx cI cap X), (oa ry cI cap Y)] s.heap := hP
  obtain ⟨Q9, hQ9⟩ : ∃ Q9 : State → Prop, Q9 = MQ below (zQ (some (.int (nI (prt n rg)))) (fun t => va_P (dC, dI) classes [(oc6 r (.ref rx) (.ref ry) (nI n) rg), (oa rx cI cap X), (oa ry cI cap Y)] t.heap ∧ va_D A [(oc6 r (.ref rx) (.ref ry) (nI n) rg), (oa rx cI cap X), (oa ry cI cap Y)]) A) ([.ref r] : List Value).toArray s 0 0 A := ⟨_, rfl⟩
  rw [← hQ9]
  have hl := lv_entry ([.ref r]) (n := 1) (Nat.le_of_ble_eq_true rfl)
  rw [lg_entry_eq]
  generalize (lg_sl ([.ref r]) ++ List.replicate (1 - (lg_sl ([.ref r])).length) Slot.unset).toArray = ls at hl ⊢
  have hl : lv_has ls 1 [(0, .ref r)] := hl
  refine lv_aload_n hx hb dX7_parts_0 rfl (lv_at hl 0 rfl) ?_
  refine va_get (D := (dC, dI)) (ci := 6) (v := .int (nI n)) (C := RX7) (T := TX7) (N := 4) hx hb hts inX7 hown hK hP 0 rfl rfl 2 (by decide) (hts _ mw_175) (fun _ h9 => h9) rfl dX7_parts_1 ?_
  refine lv_iconst (v := 1) hx hb dX7_parts_4 (by decide) ?_
  refine lv_icmp_ne (tgt := 12) hx hb dX7_parts_5 (by decide) (fun c_1 => ?_) (fun c_1 => ?_)
  · have c_1 : ¬ ((n : Nat) : Int) = 1 := zc_ne (nI_toInt (by omega)) (by decide) c_1
    refine lv_aload_n hx hb dX7_parts_12 rfl (lv_at hl 0 rfl) ?_
    have hPc := hP.sub (ws' := [(oc6 r (.ref rx) (.ref ry) (nI n) rg), (oa rx cI cap X), (oa ry cI cap Y)]) [0, 1, 2] rfl
    have hDc := hD.sub (ws' := [(oc6 r (.ref rx) (.ref ry) (nI n) rg), (oa rx cI cap X), (oa ry cI cap Y)]) [0, 1, 2] (by decide) rfl
    have hFc := va_free (wc := [(oc6 r (.ref rx) (.ref ry) (nI n) rg), (oa rx cI cap X), (oa ry cI cap Y)]) hD hS hA [0, 1, 2] rfl
    refine zcall (st1 := [.int (nI (edg n rg))]) (va_runV (As := []) (rest := []) ⟨hx, hb, hml, hown, hts⟩ (k_Row_edges l dC dI cI cZ cF s.heap.size r rx ry n cap X Y rg (by omega) (by omega)) (cwV 0 hts (zz_gV mw_528 mw_529 mw_530 mw_102 mc_yX7_edges) rfl rfl rfl (by decide +kernel) ⟨Nat.le_of_ble_eq_true rfl, Nat.le_of_ble_eq_true rfl⟩) (zPV2 (q0 := 0) (ci := 6) hPc hDc hK hXN rfl rfl) rfl rfl hl.1 rfl (lv_room (Nat.le_of_ble_eq_true rfl)) dX7_parts_13 ⟨Nat.le_of_ble_eq_true rfl, Nat.le_of_ble_eq_true rfl⟩) hS hFc hFc rfl (fun t H1 locs ht hB hk1 hS => ?_)
    obtain ⟨hP1, hD1⟩ := hB
    rw [ht] at hP1
    obtain ⟨hP, hD⟩ := va_join (wr := []) (w1 := [(oc6 r (.ref rx) (.ref ry) (nI n) rg), (oa rx cI cap X), (oa ry cI cap Y)]) hP hD [0, 1, 2] [] rfl rfl (by decide) (by decide) hk1 hFc hP1 hD1
    clear hk1 hPc hDc hFc hP1 hD1 ht
    generalize H1 = H at hP hS ⊢
    have hP : va_P (dC, dI) classes [(oc6 r (.ref rx) (.ref ry) (nI n) rg), (oa rx cI cap X), (oa ry cI cap Y)] H := hP
    have hD : va_D A [(oc6 r (.ref rx) (.ref ry) (nI n) rg), (oa rx cI cap X), (oa ry cI cap Y)] := hD
    have hP9 := hP.sub (ws' := [(oc6 r (.ref rx) (.ref ry) (nI n) rg), (oa rx cI cap X), (oa ry cI cap Y)]) [0, 1, 2] rfl
    have hD9 := hD.sub (ws' := [(oc6 r (.ref rx) (.ref ry) (nI n) rg), (oa rx cI cap X), (oa ry cI cap Y)]) [0, 1, 2] (by decide) rfl
    rw [hQ9]
    exact W.iret (v := nI (edg n rg)) hx hb hr (fun t ht hW => ⟨⟨congrArg (fun z => Outcome.returned (some (Value.int z))) (show (nI (edg n rg) : Int32) = nI (prt n rg) from zn_eq (by unfold prt; split <;> omega)), by rw [ht]; exact hP9, hD9⟩, hS.F ht⟩) hS.2.2 dX7_parts_16
  · have c_1 : ((n : Nat) : Int) = 1 := zc_eq (nI_toInt (by omega)) (by decide) c_1
    refine lv_iconst (v := 1) hx hb dX7_parts_8 (by decide) ?_
    refine lv_goto (tgt := 16) hx hb dX7_parts_9 (by decide) ?_
    have hP9 := hP.sub (ws' := [(oc6 r (.ref rx) (.ref ry) (nI n) rg), (oa rx cI cap X), (oa ry cI cap Y)]) [0, 1, 2] rfl
    have hD9 := hD.sub (ws' := [(oc6 r (.ref rx) (.ref ry) (nI n) rg), (oa rx cI cap X), (oa ry cI cap Y)]) [0, 1, 2] (by decide) rfl
    rw [hQ9]
    exact W.iret (v := 1) hx hb hr (fun t ht hW => ⟨⟨congrArg (fun z => Outcome.returned (some (Value.int z))) (show (1 : Int32) = nI (prt n rg) from zn_eq (by unfold prt; split <;> omega)), by rw [ht]; exact hP9, hD9⟩, hS.F ht⟩) hS.2.2 dX7_parts_16
set_option maxHeartbeats 4000000 in
set_option maxRecDepth 100000 in
theorem k_Row_isEnd (l : Launch) (dC : Nat → ClassId) (dI : Nat → Nat → Nat) (cI cZ cF : ClassId) (sz : Nat) (r : Nat) (rx : Nat) (ry : Nat) (n : Nat) (cap : Nat) (X : Nat → Int32) (Y : Nat → Int32) (rg : Int32) (i : Nat) (hn : n ≤ cap) (hcap : cap ≤ 1000) (hi : i < n) : Met l yX7_isEnd (.code yX7_isEnd cX7_isEnd 2 (some .boolean) :: ws0) ({ frames := 0, cells := 0, slots := 0, locals := 0 } : Room) (va_Pc [.ref r, .int (nI i)] (zPre (dC, dI) classes (zTy cI cZ cF) [(oc6 r (.ref rx) (.ref ry) (nI n) rg), (oa rx cI cap X), (oa ry cI cap Y)] sz zXN)) (zQ (some (.int (pI (rg.toInt = 0 ∧ (i = 0 ∨ i = n - 1))))) (fun t => va_P (dC, dI) classes [(oc6 r (.ref rx) (.ref ry) (nI n) rg), (oa rx cI cap X), (oa ry cI cap Y)] t.heap ∧ va_D (va_A [(oc6 r (.ref rx) (.ref ry) (nI n) rg), (oa rx cI cap X), (oa ry cI cap Y)] sz) [(oc6 r (.ref rx) (.ref ry) (nI n) rg), (oa rx cI cap X), (oa ry cI cap Y)]) (va_A [(oc6 r (.ref rx) (.ref ry) (nI n) rg), (oa rx cI cap X), (oa ry cI cap Y)] sz)) 0 0 (va_A [(oc6 r (.ref rx) (.ref ry) (nI n) rg), (oa rx cI cap X), (oa ry cI cap Y)] sz) := by
  refine Met.ofW (cc := cX7_isEnd) (maxL := 2) (ret := (some .boolean)) (by decide) rfl ?_
  intro p e s m args below meth c s₁ B hml hv
  obtain ⟨rfl, hsz, hP, hK, hD0, hXN⟩ := hv
  have hx := B.exec
  have hb := B.bytes
  have hr := B.returns
  have hts0 := atoms_spec (ws := .code yX7_isEnd cX7_isEnd 2 (some .boolean) :: ws0) B.pre
  have hts : ∀ w9 ∈ ws0, w9.before ([.ref r, .int (nI i)] : List Value).toArray s = true := fun w9 h => hts0 w9 (List.mem_cons_of_mem _ h)
  have hown : s.vm.findClass "ScaleShop$Row" = some m.cls := findClass_of_methodNamed B.named
  have hlocks := B.notSynchronized
  subst hsz
  have hD := hD0.self (sz := s.heap.size)
  clear hD0
  generalize hAe : va_A [(oc6 r (.ref rx) (.ref ry) (nI n) rg), (oa rx cI cap X), (oa ry cI cap Y)] s.heap.size = A at hD ⊢
  have hA : ∀ q : Nat, s.heap.size ≤ q → A q := fun q h => by rw [← hAe]; exact Or.inr h
  clear hAe
  have hS : va_S A s.heap s.heap [] := va_S.rf
  have hP : va_P (dC, dI) classes [(oc6 r (.ref rx) (.ref ry) (nI n) rg), (oa rx cI cap X), (oa ry cI cap Y)] s.heap := hP
  obtain ⟨Q9, hQ9⟩ : ∃ Q9 : State → Prop, Q9 = MQ below (zQ (some (.int (pI (rg.toInt = 0 ∧ (i = 0 ∨ i = n - 1))))) (fun t => va_P (dC, dI) classes [(oc6 r (.ref rx) (.ref ry) (nI n) rg), (oa rx cI cap X), (oa ry cI cap Y)] t.heap ∧ va_D A [(oc6 r (.ref rx) (.ref ry) (nI n) rg), (oa rx cI cap X), (oa ry cI cap Y)]) A) ([.ref r, .int (nI i)] : List Value).toArray s 0 0 A := ⟨_, rfl⟩
  rw [← hQ9]
  have hl := lv_entry ([.ref r, .int (nI i)]) (n := 2) (Nat.le_of_ble_eq_true rfl)
  rw [lg_entry_eq]
  generalize (lg_sl ([.ref r, .int (nI i)]) ++ List.replicate (2 - (lg_sl ([.ref r, .int (nI i)])).length) Slot.unset).toArray = ls at hl ⊢
  have hl : lv_has ls 2 [(0, .ref r), (1, .int (nI i))] := hl
  refine lv_aload_n hx hb dX7_isEnd_0 rfl (lv_at hl 0 rfl) ?_
  refine va_get (D := (dC, dI)) (ci := 6) (v := .int rg) (C := RX7) (T := TX7) (N := 4) hx hb hts inX7 hown hK hP 0 rfl rfl 3 (by decide) (hts _ mw_183) (fun _ h9 => h9) rfl dX7_isEnd_1 ?_
  refine lv_if_ne (tgt := 25) hx hb dX7_isEnd_4 (by decide) (fun c_1 => ?_) (fun c_1 => ?_)
  · have c_1 : ¬ rg.toInt = 0 := zc_ne rfl (by decide) c_1
    refine lv_iconst (v := 0) hx hb dX7_isEnd_25 (by decide) ?_
    have hP9 := hP.sub (ws' := [(oc6 r (.ref rx) (.ref ry) (nI n) rg), (oa rx cI cap X), (oa ry cI cap Y)]) [0, 1, 2] rfl
    have hD9 := hD.sub (ws' := [(oc6 r (.ref rx) (.ref ry) (nI n) rg), (oa rx cI cap X), (oa ry cI cap Y)]) [0, 1, 2] (by decide) rfl
    rw [hQ9]
    exact W.zret (ty := .boolean) (v := 0) hx hb hr (rfl) (fun t ht hW => ⟨⟨congrArg (fun z => Outcome.returned (some (Value.int z))) (show (0 : Int32) = pI (rg.toInt = 0 ∧ (i = 0 ∨ i = n - 1)) from (zp_f (by omega)).symm), by rw [ht]; exact hP9, hD9⟩, hS.F ht⟩) hS.2.2 dX7_isEnd_26
  · have c_1 : rg.toInt = 0 := zc_eq rfl (by decide) c_1
    refine lv_iload_n hx hb dX7_isEnd_7 rfl (lv_at hl 1 rfl) ?_
    refine lv_if_eq (tgt := 21) hx hb dX7_isEnd_8 (by decide) (fun c_2 => ?_) (fun c_2 => ?_)
    · have c_2 : ((i : Nat) : Int) = 0 := zc_eq (nI_toInt (by omega)) (by decide) c_2
      refine lv_iconst (v := 1) hx hb dX7_isEnd_21 (by decide) ?_
      refine lv_goto (tgt := 26) hx hb dX7_isEnd_22 (by decide) ?_
      have hP9 := hP.sub (ws' := [(oc6 r (.ref rx) (.ref ry) (nI n) rg), (oa rx cI cap X), (oa ry cI cap Y)]) [0, 1, 2] rfl
      have hD9 := hD.sub (ws' := [(oc6 r (.ref rx) (.ref ry) (nI n) rg), (oa rx cI cap X), (oa ry cI cap Y)]) [0, 1, 2] (by decide) rfl
      rw [hQ9]
      exact W.zret (ty := .boolean) (v := 1) hx hb hr (rfl) (fun t ht hW => ⟨⟨congrArg (fun z => Outcome.returned (some (Value.int z))) (show (1 : Int32) = pI (rg.toInt = 0 ∧ (i = 0 ∨ i = n - 1)) from (zp_t (by omega)).symm), by rw [ht]; exact hP9, hD9⟩, hS.F ht⟩) hS.2.2 dX7_isEnd_26
    · have c_2 : ¬ ((i : Nat) : Int) = 0 := zc_ne (nI_toInt (by omega)) (by decide) c_2
      refine lv_iload_n hx hb dX7_isEnd_11 rfl (lv_at hl 1 rfl) ?_
      refine lv_aload_n hx hb dX7_isEnd_12 rfl (lv_at hl 0 rfl) ?_
      refine va_get (D := (dC, dI)) (ci := 6) (v := .int (nI n)) (C := RX7) (T := TX7) (N := 4) hx hb hts inX7 hown hK hP 0 rfl rfl 2 (by decide) (hts _ mw_175) (fun _ h9 => h9) rfl dX7_isEnd_13 ?_
      refine lv_iconst (v := 1) hx hb dX7_isEnd_16 (by decide) ?_
      refine lv_isub hx hb dX7_isEnd_17 ?_
      refine zz_i (v := nI (n - 1)) (pk_sub (a := n) (b := 1) (by omega)) ?_
      refine lv_icmp_ne (tgt := 25) hx hb dX7_isEnd_18 (by decide) (fun c_3 => ?_) (fun c_3 => ?_)
      · have c_3 : ¬ ((i : Nat) : Int) = ((n - 1 : Nat) : Int) := zc_ne (nI_toInt (by omega)) (nI_toInt (by omega)) c_3
        refine lv_iconst (v := 0) hx hb dX7_isEnd_25 (by decide) ?_
        have hP9 := hP.sub (ws' := [(oc6 r (.ref rx) (.ref ry) (nI n) rg), (oa rx cI cap X), (oa ry cI cap Y)]) [0, 1, 2] rfl
        have hD9 := hD.sub (ws' := [(oc6 r (.ref rx) (.ref ry) (nI n) rg), (oa rx cI cap X), (oa ry cI cap Y)]) [0, 1, 2] (by decide) rfl
        rw [hQ9]
        exact W.zret (ty := .boolean) (v := 0) hx hb hr (rfl) (fun t ht hW => ⟨⟨congrArg (fun z => Outcome.returned (some (Value.int z))) (show (0 : Int32) = pI (rg.toInt = 0 ∧ (i = 0 ∨ i = n - 1)) from (zp_f (by omega)).symm), by rw [ht]; exact hP9, hD9⟩, hS.F ht⟩) hS.2.2 dX7_isEnd_26
      · have c_3 : ((i : Nat) : Int) = ((n - 1 : Nat) : Int) := zc_eq (nI_toInt (by omega)) (nI_toInt (by omega)) c_3
        refine lv_iconst (v := 1) hx hb dX7_isEnd_21 (by decide) ?_
        refine lv_goto (tgt := 26) hx hb dX7_isEnd_22 (by decide) ?_
        have hP9 := hP.sub (ws' := [(oc6 r (.ref rx) (.ref ry) (nI n) rg), (oa rx cI cap X), (oa ry cI cap Y)]) [0, 1, 2] rfl
        have hD9 := hD.sub (ws' := [(oc6 r (.ref rx) (.ref ry) (nI n) rg), (oa rx cI cap X), (oa ry cI cap Y)]) [0, 1, 2] (by decide) rfl
        rw [hQ9]
        exact W.zret (ty := .boolean) (v := 1) hx hb hr (rfl) (fun t ht hW => ⟨⟨congrArg (fun z => Outcome.returned (some (Value.int z))) (show (1 : Int32) = pI (rg.toInt = 0 ∧ (i = 0 ∨ i = n - 1)) from (zp_t (by omega)).symm), by rw [ht]; exact hP9, hD9⟩, hS.F ht⟩) hS.2.2 dX7_isEnd_26
set_option maxHeartbeats 4000000 in
set_option maxRecDepth 100000 in
theorem k_Row_turn (l : Launch) (dC : Nat → ClassId) (dI : Nat → Nat → Nat) (cI cZ cF : ClassId) (sz : Nat) (r : Nat) (rx : Nat) (ry : Nat) (n : Nat) (cap : Nat) (X : Nat → Int32) (Y : Nat → Int32) (rg : Int32) (i : Nat) (px : Int32) (py : Int32) (hn : n ≤ cap) (hcap : cap ≤ 1000) (hp : pls n X Y) (hi : i < n) (hpx : pl px) (hpy : pl py) : Met l yX7_turn (.code yX7_turn cX7_turn 5 (some .int) :: ws0) ({ frames := 0, cells := 0, slots := 0, locals := 0 } : Room) (va_Pc [.ref r, .int (nI i), .int px, .int py] (zPre (dC, dI) classes (zTy cI cZ cF) [(oc6 r (.ref rx) (.ref ry) (nI n) rg), (oa rx cI cap X), (oa ry cI cap Y)] sz zXN)) (zQ (some (.int (iI (eCr n X Y i px.toInt py.toInt)))) (fun t => va_P (dC, dI) classes [(oc6 r (.ref rx) (.ref ry) (nI n) rg), (oa rx cI cap X), (oa ry cI cap Y)] t.heap ∧ va_D (va_A [(oc6 r (.ref rx) (.ref ry) (nI n) rg), (oa rx cI cap X), (oa ry cI cap Y)] sz) [(oc6 r (.ref rx) (.ref ry) (nI n) rg), (oa rx cI cap X), (oa ry cI cap Y)]) (va_A [(oc6 r (.ref rx) (.ref ry) (nI n) rg), (oa rx cI cap X), (oa ry cI cap Y)] sz)) 0 0 (va_A [(oc6 r (.ref rx) (.ref ry) (nI n) rg), (oa rx cI cap X), (oa ry cI cap Y)] sz) := by
  refine Met.ofW (cc := cX7_turn) (maxL := 5) (ret := (some .int)) (by decide) rfl ?_
  intro p e s m args below meth c s₁ B hml hv
  obtain ⟨rfl, hsz, hP, hK, hD0, hXN⟩ := hv
  have hx := B.exec
  have hb := B.bytes
  have hr := B.returns
  have hts0 := atoms_spec (ws := .code yX7_turn cX7_turn 5 (some .int) :: ws0) B.pre
  have hts : ∀ w9 ∈ ws0, w9.before ([.ref r, .int (nI i), .int px, .int py] : List Value).toArray s = true := fun w9 h => hts0 w9 (List.mem_cons_of_mem _ h)
  have hown : s.vm.findClass "ScaleShop$Row" = some m.cls := findClass_of_methodNamed B.named
  have hlocks := B.notSynchronized
  subst hsz
  have hD := hD0.self (sz := s.heap.size)
  clear hD0
  generalize hAe : va_A [(oc6 r (.ref rx) (.ref ry) (nI n) rg), (oa rx cI cap X), (oa ry cI cap Y)] s.heap.size = A at hD ⊢
  have hA : ∀ q : Nat, s.heap.size ≤ q → A q := fun q h => by rw [← hAe]; exact Or.inr h
  clear hAe
  have hS : va_S A s.heap s.heap [] := va_S.rf
  have hP : va_P (dC, dI) classes [(oc6 r (.ref rx) (.ref ry) (nI n) rg), (oa rx cI cap X), (oa ry cI cap Y)] s.heap := hP
  obtain ⟨Q9, hQ9⟩ : ∃ Q9 : State → Prop, Q9 = MQ below (zQ (some (.int (iI (eCr n X Y i px.toInt py.toInt)))) (fun t => va_P (dC, dI) classes [(oc6 r (.ref rx) (.ref ry) (nI n) rg), (oa rx cI cap X), (oa ry cI cap Y)] t.heap ∧ va_D A [(oc6 r (.ref rx) (.ref ry) (nI n) rg), (oa rx cI cap X), (oa ry cI cap Y)]) A) ([.ref r, .int (nI i), .int px, .int py] : List Value).toArray s 0 0 A := ⟨_, rfl⟩
  rw [← hQ9]
  have hl := lv_entry ([.ref r, .int (nI i), .int px, .int py]) (n := 5) (Nat.le_of_ble_eq_true rfl)
  rw [lg_entry_eq]
  generalize (lg_sl ([.ref r, .int (nI i), .int px, .int py]) ++ List.replicate (5 - (lg_sl ([.ref r, .int (nI i), .int px, .int py])).length) Slot.unset).toArray = ls at hl ⊢
  have hl : lv_has ls 5 [(0, .ref r), (1, .int (nI i)), (2, .int px), (3, .int py)] := hl
  refine lv_iload_n hx hb dX7_turn_0 rfl (lv_at hl 1 rfl) ?_
  refine lv_iconst (v := 1) hx hb dX7_turn_1 (by decide) ?_
  refine lv_iadd hx hb dX7_turn_2 ?_
  refine zz_i (v := nI (i + 1)) (nI_add i 1) ?_
  refine lv_aload_n hx hb dX7_turn_3 rfl (lv_at hl 0 rfl) ?_
  refine va_get (D := (dC, dI)) (ci := 6) (v := .int (nI n)) (C := RX7) (T := TX7) (N := 4) hx hb hts inX7 hown hK hP 0 rfl rfl 2 (by decide) (hts _ mw_175) (fun _ h9 => h9) rfl dX7_turn_4 ?_
  have hj_1 : W p l e ((headSpec (.code yX7_turn cX7_turn 5 (some .int) :: ws0) ({ frames := 0, cells := 0, slots := 0, locals := 0 } : Room)).room) s m ([.ref r, .int (nI i), .int px, .int py] : List Value).toArray below meth c s.heap [] 0 0 Q9 (F0 m 17 ls [.int (nI (nxt n i))]) := by
    have hnx := nxt_lt (n := n) (i := i) (by omega)
    refine lv_istore (lv' := [(4, .int (nI (nxt n i))), (0, .ref r), (1, .int (nI i)), (2, .int px), (3, .int py)]) hx hb dX7_turn_17 hl (by decide) rfl (fun ls hl => ?_)
    refine lv_aload_n hx hb dX7_turn_19 rfl (lv_at hl 1 rfl) ?_
    refine va_get (D := (dC, dI)) (ci := 6) (v := .ref rx) (C := RX7) (T := TX7) (N := 4) hx hb hts inX7 hown hK hP 0 rfl rfl 0 (by decide) (hts _ mw_161) (fun _ h9 => h9) rfl dX7_turn_20 ?_
    refine lv_iload hx hb dX7_turn_23 (lv_at hl 0 rfl) ?_
    refine z_iald hx hb hK hP 1 0 rfl rfl (e := nxt n i) rfl (by omega) (by omega) dX7_turn_25 ?_
    refine lv_aload_n hx hb dX7_turn_26 rfl (lv_at hl 1 rfl) ?_
    refine va_get (D := (dC, dI)) (ci := 6) (v := .ref rx) (C := RX7) (T := TX7) (N := 4) hx hb hts inX7 hown hK hP 0 rfl rfl 0 (by decide) (hts _ mw_161) (fun _ h9 => h9) rfl dX7_turn_27 ?_
    refine lv_iload_n hx hb dX7_turn_30 rfl (lv_at hl 2 rfl) ?_
    refine z_iald hx hb hK hP 1 0 rfl rfl (e := i) rfl (by omega) (by omega) dX7_turn_31 ?_
    refine lv_isub hx hb dX7_turn_32 ?_
    refine lv_iload_n hx hb dX7_turn_33 rfl (lv_at hl 4 rfl) ?_
    refine lv_aload_n hx hb dX7_turn_34 rfl (lv_at hl 1 rfl) ?_
    refine va_get (D := (dC, dI)) (ci := 6) (v := .ref ry) (C := RX7) (T := TX7) (N := 4) hx hb hts inX7 hown hK hP 0 rfl rfl 1 (by decide) (hts _ mw_168) (fun _ h9 => h9) rfl dX7_turn_35 ?_
    refine lv_iload_n hx hb dX7_turn_38 rfl (lv_at hl 2 rfl) ?_
    refine z_iald hx hb hK hP 2 0 rfl rfl (e := i) rfl (by omega) (by omega) dX7_turn_39 ?_
    refine lv_isub hx hb dX7_turn_40 ?_
    refine lv_imul hx hb dX7_turn_41 ?_
    refine lv_aload_n hx hb dX7_turn_42 rfl (lv_at hl 1 rfl) ?_
    refine va_get (D := (dC, dI)) (ci := 6) (v := .ref ry) (C := RX7) (T := TX7) (N := 4) hx hb hts inX7 hown hK hP 0 rfl rfl 1 (by decide) (hts _ mw_168) (fun _ h9 => h9) rfl dX7_turn_43 ?_
    refine lv_iload hx hb dX7_turn_46 (lv_at hl 0 rfl) ?_
    refine z_iald hx hb hK hP 2 0 rfl rfl (e := nxt n i) rfl (by omega) (by omega) dX7_turn_48 ?_
    refine lv_aload_n hx hb dX7_turn_49 rfl (lv_at hl 1 rfl) ?_
    refine va_get (D := (dC, dI)) (ci := 6) (v := .ref ry) (C := RX7) (T := TX7) (N := 4) hx hb hts inX7 hown hK hP 0 rfl rfl 1 (by decide) (hts _ mw_168) (fun _ h9 => h9) rfl dX7_turn_50 ?_
    refine lv_iload_n hx hb dX7_turn_53 rfl (lv_at hl 2 rfl) ?_
    refine z_iald hx hb hK hP 2 0 rfl rfl (e := i) rfl (by omega) (by omega) dX7_turn_54 ?_
    refine lv_isub hx hb dX7_turn_55 ?_
    refine lv_iload_n hx hb dX7_turn_56 rfl (lv_at hl 3 rfl) ?_
    refine lv_aload_n hx hb dX7_turn_57 rfl (lv_at hl 1 rfl) ?_
    refine va_get (D := (dC, dI)) (ci := 6) (v := .ref rx) (C := RX7) (T := TX7) (N := 4) hx hb hts inX7 hown hK hP 0 rfl rfl 0 (by decide) (hts _ mw_161) (fun _ h9 => h9) rfl dX7_turn_58 ?_
    refine lv_iload_n hx hb dX7_turn_61 rfl (lv_at hl 2 rfl) ?_
    refine z_iald hx hb hK hP 1 0 rfl rfl (e := i) rfl (by omega) (by omega) dX7_turn_62 ?_
    refine lv_isub hx hb dX7_turn_63 ?_
    refine lv_imul hx hb dX7_turn_64 ?_
    refine lv_isub hx hb dX7_turn_65 ?_
    have hP9 := hP.sub (ws' := [(oc6 r (.ref rx) (.ref ry) (nI n) rg), (oa rx cI cap X), (oa ry cI cap Y)]) [0, 1, 2] rfl
    have hD9 := hD.sub (ws' := [(oc6 r (.ref rx) (.ref ry) (nI n) rg), (oa rx cI cap X), (oa ry cI cap Y)]) [0, 1, 2] (by decide) rfl
    rw [hQ9]
    exact W.iret (v := (((X (nxt n i)) - (X i)) * (py - (Y i))) - (((Y (nxt n i)) - (Y i)) * (px - (X i)))) hx hb hr (fun t ht hW => ⟨⟨congrArg (fun z => Outcome.returned (some (Value.int z))) (show ((((X (nxt n i)) - (X i)) * (py - (Y i))) - (((Y (nxt n i)) - (Y i)) * (px - (X i))) : Int32) = iI (eCr n X Y i px.toInt py.toInt) from crI (hp i hi).1 (hp i hi).2 (hp _ hnx).1 (hp _ hnx).2 hpx hpy), by rw [ht]; exact hP9, hD9⟩, hS.F ht⟩) hS.2.2 dX7_turn_66
  refine lv_icmp_ge (tgt := 16) hx hb dX7_turn_7 (by decide) (fun c_2 => ?_) (fun c_2 => ?_)
  · have c_2 : ((n : Nat) : Int) ≤ ((i + 1 : Nat) : Int) := zc_le (nI_toInt (by omega)) (nI_toInt (by omega)) c_2
    refine lv_iconst (v := 0) hx hb dX7_turn_16 (by decide) ?_
    refine zz_i (v := nI (nxt n i)) (by first | (rw [nxt, if_pos (by omega)]) | (rw [nxt, if_neg (by omega)]; first | done | rfl)) ?_
    exact hj_1 
  · have c_2 : ((i + 1 : Nat) : Int) < ((n : Nat) : Int) := zc_nle (nI_toInt (by omega)) (nI_toInt (by omega)) c_2
    refine lv_iload_n hx hb dX7_turn_10 rfl (lv_at hl 1 rfl) ?_
    refine lv_iconst (v := 1) hx hb dX7_turn_11 (by decide) ?_
    refine lv_iadd hx hb dX7_turn_12 ?_
    refine zz_i (v := nI (i + 1)) (nI_add i 1) ?_
    refine lv_goto (tgt := 17) hx hb dX7_turn_13 (by decide) ?_
    refine zz_i (v := nI (nxt n i)) (by first | (rw [nxt, if_pos (by omega)]) | (rw [nxt, if_neg (by omega)]; first | done | rfl)) ?_
    exact hj_1 
set_option maxHeartbeats 4000000 in
set_option maxRecDepth 100000 in
theorem k_Row_isOn (l : Launch) (dC : Nat → ClassId) (dI : Nat → Nat → Nat) (cI cZ cF : ClassId) (sz : Nat) (r : Nat) (rx : Nat) (ry : Nat) (n : Nat) (cap : Nat) (X : Nat → Int32) (Y : Nat → Int32) (rg : Int32) (i : Nat) (px : Int32) (py : Int32) (hn : n ≤ cap) (hcap : cap ≤ 1000) (hp : pls n X Y) (hi : i < n) (hpx : pl px) (hpy : pl py) : Met l yX7_isOn (.code yX7_isOn cX7_isOn 5 (some .boolean) :: ws0) ({ frames := 1, cells := 0, slots := 0, locals := 24 } : Room) (va_Pc [.ref r, .int (nI i), .int px, .int py] (zPre (dC, dI) classes (zTy cI cZ cF) [(oc6 r (.ref rx) (.ref ry) (nI n) rg), (oa rx cI cap X), (oa ry cI cap Y)] sz zXN)) (zQ (some (.int (pI (eOn n X Y i px.toInt py.toInt)))) (fun t => va_P (dC, dI) classes [(oc6 r (.ref rx) (.ref ry) (nI n) rg), (oa rx cI cap X), (oa ry cI cap Y)] t.heap ∧ va_D (va_A [(oc6 r (.ref rx) (.ref ry) (nI n) rg), (oa rx cI cap X), (oa ry cI cap Y)] sz) [(oc6 r (.ref rx) (.ref ry) (nI n) rg), (oa rx cI cap X), (oa ry cI cap Y)]) (va_A [(oc6 r (.ref rx) (.ref ry) (nI n) rg), (oa rx cI cap X), (oa ry cI cap Y)] sz)) 0 0 (va_A [(oc6 r (.ref rx) (.ref ry) (nI n) rg), (oa rx cI cap X), (oa ry cI cap Y)] sz) := by
  refine Met.ofW (cc := cX7_isOn) (maxL := 5) (ret := (some .boolean)) (by decide) rfl ?_
  intro p e s m args below meth c s₁ B hml hv
  obtain ⟨rfl, hsz, hP, hK, hD0, hXN⟩ := hv
  have hx := B.exec
  have hb := B.bytes
  have hr := B.returns
  have hts0 := atoms_spec (ws := .code yX7_isOn cX7_isOn 5 (some .boolean) :: ws0) B.pre
  have hts : ∀ w9 ∈ ws0, w9.before ([.ref r, .int (nI i), .int px, .int py] : List Value).toArray s = true := fun w9 h => hts0 w9 (List.mem_cons_of_mem _ h)
  have hown : s.vm.findClass "ScaleShop$Row" = some m.cls := findClass_of_methodNamed B.named
  have hlocks := B.notSynchronized
  subst hsz
  have hD := hD0.self (sz := s.heap.size)
  clear hD0
  generalize hAe : va_A [(oc6 r (.ref rx) (.ref ry) (nI n) rg), (oa rx cI cap X), (oa ry cI cap Y)] s.heap.size = A at hD ⊢
  have hA : ∀ q : Nat, s.heap.size ≤ q → A q := fun q h => by rw [← hAe]; exact Or.inr h
  clear hAe
  have hS : va_S A s.heap s.heap [] := va_S.rf
  have hP : va_P (dC, dI) classes [(oc6 r (.ref rx) (.ref ry) (nI n) rg), (oa rx cI cap X), (oa ry cI cap Y)] s.heap := hP
  obtain ⟨Q9, hQ9⟩ : ∃ Q9 : State → Prop, Q9 = MQ below (zQ (some (.int (pI (eOn n X Y i px.toInt py.toInt)))) (fun t => va_P (dC, dI) classes [(oc6 r (.ref rx) (.ref ry) (nI n) rg), (oa rx cI cap X), (oa ry cI cap Y)] t.heap ∧ va_D A [(oc6 r (.ref rx) (.ref ry) (nI n) rg), (oa rx cI cap X), (oa ry cI cap Y)]) A) ([.ref r, .int (nI i), .int px, .int py] : List Value).toArray s 0 0 A := ⟨_, rfl⟩
  rw [← hQ9]
  have hl := lv_entry ([.ref r, .int (nI i), .int px, .int py]) (n := 5) (Nat.le_of_ble_eq_true rfl)
  rw [lg_entry_eq]
  generalize (lg_sl ([.ref r, .int (nI i), .int px, .int py]) ++ List.replicate (5 - (lg_sl ([.ref r, .int (nI i), .int px, .int py])).length) Slot.unset).toArray = ls at hl ⊢
  have hl : lv_has ls 5 [(0, .ref r), (1, .int (nI i)), (2, .int px), (3, .int py)] := hl
  refine lv_iload_n hx hb dX7_isOn_0 rfl (lv_at hl 1 rfl) ?_
  refine lv_iconst (v := 1) hx hb dX7_isOn_1 (by decide) ?_
  refine lv_iadd hx hb dX7_isOn_2 ?_
  refine zz_i (v := nI (i + 1)) (nI_add i 1) ?_
  refine lv_aload_n hx hb dX7_isOn_3 rfl (lv_at hl 0 rfl) ?_
  refine va_get (D := (dC, dI)) (ci := 6) (v := .int (nI n)) (C := RX7) (T := TX7) (N := 4) hx hb hts inX7 hown hK hP 0 rfl rfl 2 (by decide) (hts _ mw_175) (fun _ h9 => h9) rfl dX7_isOn_4 ?_
  have hj_1 : W p l e ((headSpec (.code yX7_isOn cX7_isOn 5 (some .boolean) :: ws0) ({ frames := 1, cells := 0, slots := 0, locals := 24 } : Room)).room) s m ([.ref r, .int (nI i), .int px, .int py] : List Value).toArray below meth c s.heap [] 0 0 Q9 (F0 m 17 ls [.int (nI (nxt n i))]) := by
    have hnx := nxt_lt (n := n) (i := i) (by omega)
    refine lv_istore (lv' := [(4, .int (nI (nxt n i))), (0, .ref r), (1, .int (nI i)), (2, .int px), (3, .int py)]) hx hb dX7_isOn_17 hl (by decide) rfl (fun ls hl => ?_)
    have hj_2 : (min (X i).toInt (X (nxt n i)).toInt ≤ px.toInt ∧ px.toInt ≤ max (X i).toInt (X (nxt n i)).toInt) → W p l e ((headSpec (.code yX7_isOn cX7_isOn 5 (some .boolean) :: ws0) ({ frames := 1, cells := 0, slots := 0, locals := 24 } : Room)).room) s m ([.ref r, .int (nI i), .int px, .int py] : List Value).toArray below meth c s.heap [] 0 0 Q9 (F0 m 63 ls []) := by
      intro hx1
      have hj_3 : (min (Y i).toInt (Y (nxt n i)).toInt ≤ py.toInt ∧ py.toInt ≤ max (Y i).toInt (Y (nxt n i)).toInt) → W p l e ((headSpec (.code yX7_isOn cX7_isOn 5 (some .boolean) :: ws0) ({ frames := 1, cells := 0, slots := 0, locals := 24 } : Room)).room) s m ([.ref r, .int (nI i), .int px, .int py] : List Value).toArray below meth c s.heap [] 0 0 Q9 (F0 m 107 ls []) := by
        intro hy1
        have hcB := crBp (hp i hi).1 (hp i hi).2 (hp _ hnx).1 (hp _ hnx).2 hpx hpy
        have hcB : -2000000 ≤ eCr n X Y i px.toInt py.toInt ∧ eCr n X Y i px.toInt py.toInt ≤ 2000000 := hcB
        refine lv_aload_n hx hb dX7_isOn_107 rfl (lv_at hl 1 rfl) ?_
        refine lv_iload_n hx hb dX7_isOn_108 rfl (lv_at hl 2 rfl) ?_
        refine lv_iload_n hx hb dX7_isOn_109 rfl (lv_at hl 3 rfl) ?_
        refine lv_iload_n hx hb dX7_isOn_110 rfl (lv_at hl 4 rfl) ?_
        have hPc := hP.sub (ws' := [(oc6 r (.ref rx) (.ref ry) (nI n) rg), (oa rx cI cap X), (oa ry cI cap Y)]) [0, 1, 2] rfl
        have hDc := hD.sub (ws' := [(oc6 r (.ref rx) (.ref ry) (nI n) rg), (oa rx cI cap X), (oa ry cI cap Y)]) [0, 1, 2] (by decide) rfl
        have hFc := va_free (wc := [(oc6 r (.ref rx) (.ref ry) (nI n) rg), (oa rx cI cap X), (oa ry cI cap Y)]) hD hS hA [0, 1, 2] rfl
        refine zcall (st1 := [.int (iI (eCr n X Y i px.toInt py.toInt))]) (va_runV (As := [.int (nI i), .int px, .int py]) (rest := []) ⟨hx, hb, hml, hown, hts⟩ (k_Row_turn l dC dI cI cZ cF s.heap.size r rx ry n cap X Y rg i px py (by omega) (by omega) (by assumption) (by omega) (by assumption) (by assumption)) (cwV 3 hts (zz_gV mw_584 mw_585 mw_586 mw_102 mc_yX7_turn) rfl rfl rfl (by decide +kernel) ⟨Nat.le_of_ble_eq_true rfl, Nat.le_of_ble_eq_true rfl⟩) (zPV2 (q0 := 0) (ci := 6) hPc hDc hK hXN rfl rfl) rfl rfl hl.1 rfl (lv_room (Nat.le_of_ble_eq_true rfl)) dX7_isOn_111 ⟨Nat.le_of_ble_eq_true rfl, Nat.le_of_ble_eq_true rfl⟩) hS hFc hFc rfl (fun t H1 locs ht hB hk1 hS => ?_)
        obtain ⟨hP1, hD1⟩ := hB
        rw [ht] at hP1
        obtain ⟨hP, hD⟩ := va_join (wr := []) (w1 := [(oc6 r (.ref rx) (.ref ry) (nI n) rg), (oa rx cI cap X), (oa ry cI cap Y)]) hP hD [0, 1, 2] [] rfl rfl (by decide) (by decide) hk1 hFc hP1 hD1
        clear hk1 hPc hDc hFc hP1 hD1 ht
        generalize H1 = H at hP hS ⊢
        have hP : va_P (dC, dI) classes [(oc6 r (.ref rx) (.ref ry) (nI n) rg), (oa rx cI cap X), (oa ry cI cap Y)] H := hP
        have hD : va_D A [(oc6 r (.ref rx) (.ref ry) (nI n) rg), (oa rx cI cap X), (oa ry cI cap Y)] := hD
        refine lv_if_ne (tgt := 121) hx hb dX7_isOn_114 (by decide) (fun c_4 => ?_) (fun c_4 => ?_)
        · have c_4 : ¬ (eCr n X Y i px.toInt py.toInt) = 0 := zc_ne (iI_toInt (by omega)) (by decide) c_4
          refine lv_iconst (v := 0) hx hb dX7_isOn_121 (by decide) ?_
          have hP9 := hP.sub (ws' := [(oc6 r (.ref rx) (.ref ry) (nI n) rg), (oa rx cI cap X), (oa ry cI cap Y)]) [0, 1, 2] rfl
          have hD9 := hD.sub (ws' := [(oc6 r (.ref rx) (.ref ry) (nI n) rg), (oa rx cI cap X), (oa ry cI cap Y)]) [0, 1, 2] (by decide) rfl
          rw [hQ9]
          exact W.zret (ty := .boolean) (v := 0) hx hb hr (rfl) (fun t ht hW => ⟨⟨congrArg (fun z => Outcome.returned (some (Value.int z))) (show (0 : Int32) = pI (eOn n X Y i px.toInt py.toInt) from (zp_f (by unfold eOn onS; first | exact ⟨by assumption, hx1.1, hx1.2, hy1.1, hy1.2⟩ | exact fun h => absurd h.1 (by assumption))).symm), by rw [ht]; exact hP9, hD9⟩, hS.F ht⟩) hS.2.2 dX7_isOn_122
        · have c_4 : (eCr n X Y i px.toInt py.toInt) = 0 := zc_eq (iI_toInt (by omega)) (by decide) c_4
          refine lv_iconst (v := 1) hx hb dX7_isOn_117 (by decide) ?_
          refine lv_goto (tgt := 122) hx hb dX7_isOn_118 (by decide) ?_
          have hP9 := hP.sub (ws' := [(oc6 r (.ref rx) (.ref ry) (nI n) rg), (oa rx cI cap X), (oa ry cI cap Y)]) [0, 1, 2] rfl
          have hD9 := hD.sub (ws' := [(oc6 r (.ref rx) (.ref ry) (nI n) rg), (oa rx cI cap X), (oa ry cI cap Y)]) [0, 1, 2] (by decide) rfl
          rw [hQ9]
          exact W.zret (ty := .boolean) (v := 1) hx hb hr (rfl) (fun t ht hW => ⟨⟨congrArg (fun z => Outcome.returned (some (Value.int z))) (show (1 : Int32) = pI (eOn n X Y i px.toInt py.toInt) from (zp_t (by unfold eOn onS; first | exact ⟨by assumption, hx1.1, hx1.2, hy1.1, hy1.2⟩ | exact fun h => absurd h.1 (by assumption))).symm), by rw [ht]; exact hP9, hD9⟩, hS.F ht⟩) hS.2.2 dX7_isOn_122
      refine lv_iload_n hx hb dX7_isOn_63 rfl (lv_at hl 4 rfl) ?_
      refine lv_aload_n hx hb dX7_isOn_64 rfl (lv_at hl 1 rfl) ?_
      refine va_get (D := (dC, dI)) (ci := 6) (v := .ref ry) (C := RX7) (T := TX7) (N := 4) hx hb hts inX7 hown hK hP 0 rfl rfl 1 (by decide) (hts _ mw_168) (fun _ h9 => h9) rfl dX7_isOn_65 ?_
      refine lv_iload_n hx hb dX7_isOn_68 rfl (lv_at hl 2 rfl) ?_
      refine z_iald hx hb hK hP 2 0 rfl rfl (e := i) rfl (by omega) (by omega) dX7_isOn_69 ?_
      refine lv_icmp_ge (tgt := 84) hx hb dX7_isOn_70 (by decide) (fun c_5 => ?_) (fun c_5 => ?_)
      · have c_5 : (Y i).toInt ≤ py.toInt := zc_le rfl rfl c_5
        refine lv_iload_n hx hb dX7_isOn_84 rfl (lv_at hl 4 rfl) ?_
        refine lv_aload_n hx hb dX7_isOn_85 rfl (lv_at hl 1 rfl) ?_
        refine va_get (D := (dC, dI)) (ci := 6) (v := .ref ry) (C := RX7) (T := TX7) (N := 4) hx hb hts inX7 hown hK hP 0 rfl rfl 1 (by decide) (hts _ mw_168) (fun _ h9 => h9) rfl dX7_isOn_86 ?_
        refine lv_iload_n hx hb dX7_isOn_89 rfl (lv_at hl 2 rfl) ?_
        refine z_iald hx hb hK hP 2 0 rfl rfl (e := i) rfl (by omega) (by omega) dX7_isOn_90 ?_
        refine lv_icmp_le (tgt := 107) hx hb dX7_isOn_91 (by decide) (fun c_6 => ?_) (fun c_6 => ?_)
        · have c_6 : py.toInt ≤ (Y i).toInt := zc_le rfl rfl c_6
          exact hj_3 (by omega)
        · have c_6 : (Y i).toInt < py.toInt := zc_nle rfl rfl c_6
          refine lv_iload_n hx hb dX7_isOn_94 rfl (lv_at hl 4 rfl) ?_
          refine lv_aload_n hx hb dX7_isOn_95 rfl (lv_at hl 1 rfl) ?_
          refine va_get (D := (dC, dI)) (ci := 6) (v := .ref ry) (C := RX7) (T := TX7) (N := 4) hx hb hts inX7 hown hK hP 0 rfl rfl 1 (by decide) (hts _ mw_168) (fun _ h9 => h9) rfl dX7_isOn_96 ?_
          refine lv_iload hx hb dX7_isOn_99 (lv_at hl 0 rfl) ?_
          refine z_iald hx hb hK hP 2 0 rfl rfl (e := nxt n i) rfl (by omega) (by omega) dX7_isOn_101 ?_
          refine lv_icmp_le (tgt := 107) hx hb dX7_isOn_102 (by decide) (fun c_7 => ?_) (fun c_7 => ?_)
          · have c_7 : py.toInt ≤ (Y (nxt n i)).toInt := zc_le rfl rfl c_7
            exact hj_3 (by omega)
          · have c_7 : (Y (nxt n i)).toInt < py.toInt := zc_nle rfl rfl c_7
            refine lv_iconst (v := 0) hx hb dX7_isOn_105 (by decide) ?_
            have hP9 := hP.sub (ws' := [(oc6 r (.ref rx) (.ref ry) (nI n) rg), (oa rx cI cap X), (oa ry cI cap Y)]) [0, 1, 2] rfl
            have hD9 := hD.sub (ws' := [(oc6 r (.ref rx) (.ref ry) (nI n) rg), (oa rx cI cap X), (oa ry cI cap Y)]) [0, 1, 2] (by decide) rfl
            rw [hQ9]
            exact W.zret (ty := .boolean) (v := 0) hx hb hr (rfl) (fun t ht hW => ⟨⟨congrArg (fun z => Outcome.returned (some (Value.int z))) (show (0 : Int32) = pI (eOn n X Y i px.toInt py.toInt) from (zp_f (by unfold eOn onS; omega)).symm), by rw [ht]; exact hP9, hD9⟩, hS.F ht⟩) hS.2.2 dX7_isOn_106
      · have c_5 : py.toInt < (Y i).toInt := zc_nle rfl rfl c_5
        refine lv_iload_n hx hb dX7_isOn_73 rfl (lv_at hl 4 rfl) ?_
        refine lv_aload_n hx hb dX7_isOn_74 rfl (lv_at hl 1 rfl) ?_
        refine va_get (D := (dC, dI)) (ci := 6) (v := .ref ry) (C := RX7) (T := TX7) (N := 4) hx hb hts inX7 hown hK hP 0 rfl rfl 1 (by decide) (hts _ mw_168) (fun _ h9 => h9) rfl dX7_isOn_75 ?_
        refine lv_iload hx hb dX7_isOn_78 (lv_at hl 0 rfl) ?_
        refine z_iald hx hb hK hP 2 0 rfl rfl (e := nxt n i) rfl (by omega) (by omega) dX7_isOn_80 ?_
        refine lv_icmp_lt (tgt := 105) hx hb dX7_isOn_81 (by decide) (fun c_8 => ?_) (fun c_8 => ?_)
        · have c_8 : py.toInt < (Y (nxt n i)).toInt := zc_lt rfl rfl c_8
          refine lv_iconst (v := 0) hx hb dX7_isOn_105 (by decide) ?_
          have hP9 := hP.sub (ws' := [(oc6 r (.ref rx) (.ref ry) (nI n) rg), (oa rx cI cap X), (oa ry cI cap Y)]) [0, 1, 2] rfl
          have hD9 := hD.sub (ws' := [(oc6 r (.ref rx) (.ref ry) (nI n) rg), (oa rx cI cap X), (oa ry cI cap Y)]) [0, 1, 2] (by decide) rfl
          rw [hQ9]
          exact W.zret (ty := .boolean) (v := 0) hx hb hr (rfl) (fun t ht hW => ⟨⟨congrArg (fun z => Outcome.returned (some (Value.int z))) (show (0 : Int32) = pI (eOn n X Y i px.toInt py.toInt) from (zp_f (by unfold eOn onS; omega)).symm), by rw [ht]; exact hP9, hD9⟩, hS.F ht⟩) hS.2.2 dX7_isOn_106
        · have c_8 : (Y (nxt n i)).toInt ≤ py.toInt := zc_nlt rfl rfl c_8
          refine lv_iload_n hx hb dX7_isOn_84 rfl (lv_at hl 4 rfl) ?_
          refine lv_aload_n hx hb dX7_isOn_85 rfl (lv_at hl 1 rfl) ?_
          refine va_get (D := (dC, dI)) (ci := 6) (v := .ref ry) (C := RX7) (T := TX7) (N := 4) hx hb hts inX7 hown hK hP 0 rfl rfl 1 (by decide) (hts _ mw_168) (fun _ h9 => h9) rfl dX7_isOn_86 ?_
          refine lv_iload_n hx hb dX7_isOn_89 rfl (lv_at hl 2 rfl) ?_
          refine z_iald hx hb hK hP 2 0 rfl rfl (e := i) rfl (by omega) (by omega) dX7_isOn_90 ?_
          refine lv_icmp_le (tgt := 107) hx hb dX7_isOn_91 (by decide) (fun c_9 => ?_) (fun c_9 => ?_)
          · have c_9 : py.toInt ≤ (Y i).toInt := zc_le rfl rfl c_9
            exact hj_3 (by omega)
          · have c_9 : (Y i).toInt < py.toInt := zc_nle rfl rfl c_9
            refine lv_iload_n hx hb dX7_isOn_94 rfl (lv_at hl 4 rfl) ?_
            refine lv_aload_n hx hb dX7_isOn_95 rfl (lv_at hl 1 rfl) ?_
            refine va_get (D := (dC, dI)) (ci := 6) (v := .ref ry) (C := RX7) (T := TX7) (N := 4) hx hb hts inX7 hown hK hP 0 rfl rfl 1 (by decide) (hts _ mw_168) (fun _ h9 => h9) rfl dX7_isOn_96 ?_
            refine lv_iload hx hb dX7_isOn_99 (lv_at hl 0 rfl) ?_
            refine z_iald hx hb hK hP 2 0 rfl rfl (e := nxt n i) rfl (by omega) (by omega) dX7_isOn_101 ?_
            refine lv_icmp_le (tgt := 107) hx hb dX7_isOn_102 (by decide) (fun c_10 => ?_) (fun c_10 => ?_)
            · have c_10 : py.toInt ≤ (Y (nxt n i)).toInt := zc_le rfl rfl c_10
              exact hj_3 (by omega)
            · have c_10 : (Y (nxt n i)).toInt < py.toInt := zc_nle rfl rfl c_10
              refine lv_iconst (v := 0) hx hb dX7_isOn_105 (by decide) ?_
              have hP9 := hP.sub (ws' := [(oc6 r (.ref rx) (.ref ry) (nI n) rg), (oa rx cI cap X), (oa ry cI cap Y)]) [0, 1, 2] rfl
              have hD9 := hD.sub (ws' := [(oc6 r (.ref rx) (.ref ry) (nI n) rg), (oa rx cI cap X), (oa ry cI cap Y)]) [0, 1, 2] (by decide) rfl
              rw [hQ9]
              exact W.zret (ty := .boolean) (v := 0) hx hb hr (rfl) (fun t ht hW => ⟨⟨congrArg (fun z => Outcome.returned (some (Value.int z))) (show (0 : Int32) = pI (eOn n X Y i px.toInt py.toInt) from (zp_f (by unfold eOn onS; omega)).symm), by rw [ht]; exact hP9, hD9⟩, hS.F ht⟩) hS.2.2 dX7_isOn_106
    refine lv_iload_n hx hb dX7_isOn_19 rfl (lv_at hl 3 rfl) ?_
    refine lv_aload_n hx hb dX7_isOn_20 rfl (lv_at hl 1 rfl) ?_
    refine va_get (D := (dC, dI)) (ci := 6) (v := .ref rx) (C := RX7) (T := TX7) (N := 4) hx hb hts inX7 hown hK hP 0 rfl rfl 0 (by decide) (hts _ mw_161) (fun _ h9 => h9) rfl dX7_isOn_21 ?_
    refine lv_iload_n hx hb dX7_isOn_24 rfl (lv_at hl 2 rfl) ?_
    refine z_iald hx hb hK hP 1 0 rfl rfl (e := i) rfl (by omega) (by omega) dX7_isOn_25 ?_
    refine lv_icmp_ge (tgt := 40) hx hb dX7_isOn_26 (by decide) (fun c_11 => ?_) (fun c_11 => ?_)
    · have c_11 : (X i).toInt ≤ px.toInt := zc_le rfl rfl c_11
      refine lv_iload_n hx hb dX7_isOn_40 rfl (lv_at hl 3 rfl) ?_
      refine lv_aload_n hx hb dX7_isOn_41 rfl (lv_at hl 1 rfl) ?_
      refine va_get (D := (dC, dI)) (ci := 6) (v := .ref rx) (C := RX7) (T := TX7) (N := 4) hx hb hts inX7 hown hK hP 0 rfl rfl 0 (by decide) (hts _ mw_161) (fun _ h9 => h9) rfl dX7_isOn_42 ?_
      refine lv_iload_n hx hb dX7_isOn_45 rfl (lv_at hl 2 rfl) ?_
      refine z_iald hx hb hK hP 1 0 rfl rfl (e := i) rfl (by omega) (by omega) dX7_isOn_46 ?_
      refine lv_icmp_le (tgt := 63) hx hb dX7_isOn_47 (by decide) (fun c_12 => ?_) (fun c_12 => ?_)
      · have c_12 : px.toInt ≤ (X i).toInt := zc_le rfl rfl c_12
        exact hj_2 (by omega)
      · have c_12 : (X i).toInt < px.toInt := zc_nle rfl rfl c_12
        refine lv_iload_n hx hb dX7_isOn_50 rfl (lv_at hl 3 rfl) ?_
        refine lv_aload_n hx hb dX7_isOn_51 rfl (lv_at hl 1 rfl) ?_
        refine va_get (D := (dC, dI)) (ci := 6) (v := .ref rx) (C := RX7) (T := TX7) (N := 4) hx hb hts inX7 hown hK hP 0 rfl rfl 0 (by decide) (hts _ mw_161) (fun _ h9 => h9) rfl dX7_isOn_52 ?_
        refine lv_iload hx hb dX7_isOn_55 (lv_at hl 0 rfl) ?_
        refine z_iald hx hb hK hP 1 0 rfl rfl (e := nxt n i) rfl (by omega) (by omega) dX7_isOn_57 ?_
        refine lv_icmp_le (tgt := 63) hx hb dX7_isOn_58 (by decide) (fun c_13 => ?_) (fun c_13 => ?_)
        · have c_13 : px.toInt ≤ (X (nxt n i)).toInt := zc_le rfl rfl c_13
          exact hj_2 (by omega)
        · have c_13 : (X (nxt n i)).toInt < px.toInt := zc_nle rfl rfl c_13
          refine lv_iconst (v := 0) hx hb dX7_isOn_61 (by decide) ?_
          have hP9 := hP.sub (ws' := [(oc6 r (.ref rx) (.ref ry) (nI n) rg), (oa rx cI cap X), (oa ry cI cap Y)]) [0, 1, 2] rfl
          have hD9 := hD.sub (ws' := [(oc6 r (.ref rx) (.ref ry) (nI n) rg), (oa rx cI cap X), (oa ry cI cap Y)]) [0, 1, 2] (by decide) rfl
          rw [hQ9]
          exact W.zret (ty := .boolean) (v := 0) hx hb hr (rfl) (fun t ht hW => ⟨⟨congrArg (fun z => Outcome.returned (some (Value.int z))) (show (0 : Int32) = pI (eOn n X Y i px.toInt py.toInt) from (zp_f (by unfold eOn onS; omega)).symm), by rw [ht]; exact hP9, hD9⟩, hS.F ht⟩) hS.2.2 dX7_isOn_62
    · have c_11 : px.toInt < (X i).toInt := zc_nle rfl rfl c_11
      refine lv_iload_n hx hb dX7_isOn_29 rfl (lv_at hl 3 rfl) ?_
      refine lv_aload_n hx hb dX7_isOn_30 rfl (lv_at hl 1 rfl) ?_
      refine va_get (D := (dC, dI)) (ci := 6) (v := .ref rx) (C := RX7) (T := TX7) (N := 4) hx hb hts inX7 hown hK hP 0 rfl rfl 0 (by decide) (hts _ mw_161) (fun _ h9 => h9) rfl dX7_isOn_31 ?_
      refine lv_iload hx hb dX7_isOn_34 (lv_at hl 0 rfl) ?_
      refine z_iald hx hb hK hP 1 0 rfl rfl (e := nxt n i) rfl (by omega) (by omega) dX7_isOn_36 ?_
      refine lv_icmp_lt (tgt := 61) hx hb dX7_isOn_37 (by decide) (fun c_14 => ?_) (fun c_14 => ?_)
      · have c_14 : px.toInt < (X (nxt n i)).toInt := zc_lt rfl rfl c_14
        refine lv_iconst (v := 0) hx hb dX7_isOn_61 (by decide) ?_
        have hP9 := hP.sub (ws' := [(oc6 r (.ref rx) (.ref ry) (nI n) rg), (oa rx cI cap X), (oa ry cI cap Y)]) [0, 1, 2] rfl
        have hD9 := hD.sub (ws' := [(oc6 r (.ref rx) (.ref ry) (nI n) rg), (oa rx cI cap X), (oa ry cI cap Y)]) [0, 1, 2] (by decide) rfl
        rw [hQ9]
        exact W.zret (ty := .boolean) (v := 0) hx hb hr (rfl) (fun t ht hW => ⟨⟨congrArg (fun z => Outcome.returned (some (Value.int z))) (show (0 : Int32) = pI (eOn n X Y i px.toInt py.toInt) from (zp_f (by unfold eOn onS; omega)).symm), by rw [ht]; exact hP9, hD9⟩, hS.F ht⟩) hS.2.2 dX7_isOn_62
      · have c_14 : (X (nxt n i)).toInt ≤ px.toInt := zc_nlt rfl rfl c_14
        refine lv_iload_n hx hb dX7_isOn_40 rfl (lv_at hl 3 rfl) ?_
        refine lv_aload_n hx hb dX7_isOn_41 rfl (lv_at hl 1 rfl) ?_
        refine va_get (D := (dC, dI)) (ci := 6) (v := .ref rx) (C := RX7) (T := TX7) (N := 4) hx hb hts inX7 hown hK hP 0 rfl rfl 0 (by decide) (hts _ mw_161) (fun _ h9 => h9) rfl dX7_isOn_42 ?_
        refine lv_iload_n hx hb dX7_isOn_45 rfl (lv_at hl 2 rfl) ?_
        refine z_iald hx hb hK hP 1 0 rfl rfl (e := i) rfl (by omega) (by omega) dX7_isOn_46 ?_
        refine lv_icmp_le (tgt := 63) hx hb dX7_isOn_47 (by decide) (fun c_15 => ?_) (fun c_15 => ?_)
        · have c_15 : px.toInt ≤ (X i).toInt := zc_le rfl rfl c_15
          exact hj_2 (by omega)
        · have c_15 : (X i).toInt < px.toInt := zc_nle rfl rfl c_15
          refine lv_iload_n hx hb dX7_isOn_50 rfl (lv_at hl 3 rfl) ?_
          refine lv_aload_n hx hb dX7_isOn_51 rfl (lv_at hl 1 rfl) ?_
          refine va_get (D := (dC, dI)) (ci := 6) (v := .ref rx) (C := RX7) (T := TX7) (N := 4) hx hb hts inX7 hown hK hP 0 rfl rfl 0 (by decide) (hts _ mw_161) (fun _ h9 => h9) rfl dX7_isOn_52 ?_
          refine lv_iload hx hb dX7_isOn_55 (lv_at hl 0 rfl) ?_
          refine z_iald hx hb hK hP 1 0 rfl rfl (e := nxt n i) rfl (by omega) (by omega) dX7_isOn_57 ?_
          refine lv_icmp_le (tgt := 63) hx hb dX7_isOn_58 (by decide) (fun c_16 => ?_) (fun c_16 => ?_)
          · have c_16 : px.toInt ≤ (X (nxt n i)).toInt := zc_le rfl rfl c_16
            exact hj_2 (by omega)
          · have c_16 : (X (nxt n i)).toInt < px.toInt := zc_nle rfl rfl c_16
            refine lv_iconst (v := 0) hx hb dX7_isOn_61 (by decide) ?_
            have hP9 := hP.sub (ws' := [(oc6 r (.ref rx) (.ref ry) (nI n) rg), (oa rx cI cap X), (oa ry cI cap Y)]) [0, 1, 2] rfl
            have hD9 := hD.sub (ws' := [(oc6 r (.ref rx) (.ref ry) (nI n) rg), (oa rx cI cap X), (oa ry cI cap Y)]) [0, 1, 2] (by decide) rfl
            rw [hQ9]
            exact W.zret (ty := .boolean) (v := 0) hx hb hr (rfl) (fun t ht hW => ⟨⟨congrArg (fun z => Outcome.returned (some (Value.int z))) (show (0 : Int32) = pI (eOn n X Y i px.toInt py.toInt) from (zp_f (by unfold eOn onS; omega)).symm), by rw [ht]; exact hP9, hD9⟩, hS.F ht⟩) hS.2.2 dX7_isOn_62
  refine lv_icmp_ge (tgt := 16) hx hb dX7_isOn_7 (by decide) (fun c_17 => ?_) (fun c_17 => ?_)
  · have c_17 : ((n : Nat) : Int) ≤ ((i + 1 : Nat) : Int) := zc_le (nI_toInt (by omega)) (nI_toInt (by omega)) c_17
    refine lv_iconst (v := 0) hx hb dX7_isOn_16 (by decide) ?_
    refine zz_i (v := nI (nxt n i)) (by first | (rw [nxt, if_pos (by omega)]) | (rw [nxt, if_neg (by omega)]; first | done | rfl)) ?_
    exact hj_1 
  · have c_17 : ((i + 1 : Nat) : Int) < ((n : Nat) : Int) := zc_nle (nI_toInt (by omega)) (nI_toInt (by omega)) c_17
    refine lv_iload_n hx hb dX7_isOn_10 rfl (lv_at hl 1 rfl) ?_
    refine lv_iconst (v := 1) hx hb dX7_isOn_11 (by decide) ?_
    refine lv_iadd hx hb dX7_isOn_12 ?_
    refine zz_i (v := nI (i + 1)) (nI_add i 1) ?_
    refine lv_goto (tgt := 17) hx hb dX7_isOn_13 (by decide) ?_
    refine zz_i (v := nI (nxt n i)) (by first | (rw [nxt, if_pos (by omega)]) | (rw [nxt, if_neg (by omega)]; first | done | rfl)) ?_
    exact hj_1 
set_option maxHeartbeats 4000000 in
set_option maxRecDepth 100000 in
theorem k_Row_isOnSet (l : Launch) (dC : Nat → ClassId) (dI : Nat → Nat → Nat) (cI cZ cF : ClassId) (sz : Nat) (r : Nat) (rx : Nat) (ry : Nat) (n : Nat) (cap : Nat) (X : Nat → Int32) (Y : Nat → Int32) (rg : Int32) (px : Int32) (py : Int32) (hn : n ≤ cap) (hcap : cap ≤ 1000) (hp : pls n X Y) (hpx : pl px) (hpy : pl py) : Met l yX7_isOnSet (.code yX7_isOnSet cX7_isOnSet 4 (some .boolean) :: ws0) ({ frames := 2, cells := 0, slots := 0, locals := 48 } : Room) (va_Pc [.ref r, .int px, .int py] (zPre (dC, dI) classes (zTy cI cZ cF) [(oc6 r (.ref rx) (.ref ry) (nI n) rg), (oa rx cI cap X), (oa ry cI cap Y)] sz zXN)) (zQ (some (.int (pI (∃ i, i < prt n rg ∧ eOn n X Y i px.toInt py.toInt)))) (fun t => va_P (dC, dI) classes [(oc6 r (.ref rx) (.ref ry) (nI n) rg), (oa rx cI cap X), (oa ry cI cap Y)] t.heap ∧ va_D (va_A [(oc6 r (.ref rx) (.ref ry) (nI n) rg), (oa rx cI cap X), (oa ry cI cap Y)] sz) [(oc6 r (.ref rx) (.ref ry) (nI n) rg), (oa rx cI cap X), (oa ry cI cap Y)]) (va_A [(oc6 r (.ref rx) (.ref ry) (nI n) rg), (oa rx cI cap X), (oa ry cI cap Y)] sz)) 0 0 (va_A [(oc6 r (.ref rx) (.ref ry) (nI n) rg), (oa rx cI cap X), (oa ry cI cap Y)] sz) := by
  refine Met.ofW (cc := cX7_isOnSet) (maxL := 4) (ret := (some .boolean)) (by decide) rfl ?_
  intro p e s m args below meth c s₁ B hml hv
  obtain ⟨rfl, hsz, hP, hK, hD0, hXN⟩ := hv
  have hx := B.exec
  have hb := B.bytes
  have hr := B.returns
  have hts0 := atoms_spec (ws := .code yX7_isOnSet cX7_isOnSet 4 (some .boolean) :: ws0) B.pre
  have hts : ∀ w9 ∈ ws0, w9.before ([.ref r, .int px, .int py] : List Value).toArray s = true := fun w9 h => hts0 w9 (List.mem_cons_of_mem _ h)
  have hown : s.vm.findClass "ScaleShop$Row" = some m.cls := findClass_of_methodNamed B.named
  have hlocks := B.notSynchronized
  subst hsz
  have hD := hD0.self (sz := s.heap.size)
  clear hD0
  generalize hAe : va_A [(oc6 r (.ref rx) (.ref ry) (nI n) rg), (oa rx cI cap X), (oa ry cI cap Y)] s.heap.size = A at hD ⊢
  have hA : ∀ q : Nat, s.heap.size ≤ q → A q := fun q h => by rw [← hAe]; exact Or.inr h
  clear hAe
  have hS : va_S A s.heap s.heap [] := va_S.rf
  have hP : va_P (dC, dI) classes [(oc6 r (.ref rx) (.ref ry) (nI n) rg), (oa rx cI cap X), (oa ry cI cap Y)] s.heap := hP
  obtain ⟨Q9, hQ9⟩ : ∃ Q9 : State → Prop, Q9 = MQ below (zQ (some (.int (pI (∃ i, i < prt n rg ∧ eOn n X Y i px.toInt py.toInt)))) (fun t => va_P (dC, dI) classes [(oc6 r (.ref rx) (.ref ry) (nI n) rg), (oa rx cI cap X), (oa ry cI cap Y)] t.heap ∧ va_D A [(oc6 r (.ref rx) (.ref ry) (nI n) rg), (oa rx cI cap X), (oa ry cI cap Y)]) A) ([.ref r, .int px, .int py] : List Value).toArray s 0 0 A := ⟨_, rfl⟩
  rw [← hQ9]
  have hl := lv_entry ([.ref r, .int px, .int py]) (n := 4) (Nat.le_of_ble_eq_true rfl)
  rw [lg_entry_eq]
  generalize (lg_sl ([.ref r, .int px, .int py]) ++ List.replicate (4 - (lg_sl ([.ref r, .int px, .int py])).length) Slot.unset).toArray = ls at hl ⊢
  have hl : lv_has ls 4 [(0, .ref r), (1, .int px), (2, .int py)] := hl
  have hpr := prt_le n rg
  refine lv_iconst (v := 0) hx hb dX7_isOnSet_0 (by decide) ?_
  refine lv_istore_n (lv' := [(3, .int 0), (0, .ref r), (1, .int px), (2, .int py)]) hx hb dX7_isOnSet_1 rfl hl (by decide) rfl (fun ls hl => ?_)
  have hl_2 : ∀ (n9 : Nat) (i : Nat) (H : Heap) (locs : List Loc) (ls : Array Slot), prt n rg - i < n9 → (i ≤ prt n rg) → (∀ k, k < i → ¬ eOn n X Y k px.toInt py.toInt) → va_P (dC, dI) classes [(oc6 r (.ref rx) (.ref ry) (nI n) rg), (oa rx cI cap X), (oa ry cI cap Y)] H → va_D A [(oc6 r (.ref rx) (.ref ry) (nI n) rg), (oa rx cI cap X), (oa ry cI cap Y)] → va_S A s.heap H locs → lv_has ls 4 [(3, .int (nI i)), (0, .ref r), (1, .int px), (2, .int py)] → W p l e ((headSpec (.code yX7_isOnSet cX7_isOnSet 4 (some .boolean) :: ws0) ({ frames := 2, cells := 0, slots := 0, locals := 48 } : Room)).room) s m ([.ref r, .int px, .int py] : List Value).toArray below meth c H locs 0 0 Q9 (F0 m 2 ls []) := by
    intro n9
    induction n9 with
    | zero => intro i H locs ls hm; exact absurd hm (Nat.not_lt_zero _)
    | succ n9 ih_2 =>
      intro i H locs ls hm hi hno hP hD hS hl
      have hpr := prt_le n rg
      refine lv_iload_n hx hb dX7_isOnSet_2 rfl (lv_at hl 0 rfl) ?_
      refine lv_aload_n hx hb dX7_isOnSet_3 rfl (lv_at hl 1 rfl) ?_
      have hPc := hP.sub (ws' := [(oc6 r (.ref rx) (.ref ry) (nI n) rg), (oa rx cI cap X), (oa ry cI cap Y)]) [0, 1, 2] rfl
      have hDc := hD.sub (ws' := [(oc6 r (.ref rx) (.ref ry) (nI n) rg), (oa rx cI cap X), (oa ry cI cap Y)]) [0, 1, 2] (by decide) rfl
      have hFc := va_free (wc := [(oc6 r (.ref rx) (.ref ry) (nI n) rg), (oa rx cI cap X), (oa ry cI cap Y)]) hD hS hA [0, 1, 2] rfl
      refine zcall (st1 := [.int (nI (prt n rg)), .int (nI i)]) (va_runV (As := []) (rest := [.int (nI i)]) ⟨hx, hb, hml, hown, hts⟩ (k_Row_parts l dC dI cI cZ cF H.size r rx ry n cap X Y rg (by omega) (by omega)) (cwV 0 hts (zz_gV mw_622 mw_623 mw_624 mw_102 mc_yX7_parts) rfl rfl rfl (by decide +kernel) ⟨Nat.le_of_ble_eq_true rfl, Nat.le_of_ble_eq_true rfl⟩) (zPV2 (q0 := 0) (ci := 6) hPc hDc hK hXN rfl rfl) rfl rfl hl.1 rfl (lv_room (Nat.le_of_ble_eq_true rfl)) dX7_isOnSet_4 ⟨Nat.le_of_ble_eq_true rfl, Nat.le_of_ble_eq_true rfl⟩) hS hFc hFc rfl (fun t H1 locs ht hB hk1 hS => ?_)
      obtain ⟨hP1, hD1⟩ := hB
      rw [ht] at hP1
      obtain ⟨hP, hD⟩ := va_join (wr := []) (w1 := [(oc6 r (.ref rx) (.ref ry) (nI n) rg), (oa rx cI cap X), (oa ry cI cap Y)]) hP hD [0, 1, 2] [] rfl rfl (by decide) (by decide) hk1 hFc hP1 hD1
      clear hk1 hPc hDc hFc hP1 hD1 ht
      generalize H1 = H at hP hS ⊢
      have hP : va_P (dC, dI) classes [(oc6 r (.ref rx) (.ref ry) (nI n) rg), (oa rx cI cap X), (oa ry cI cap Y)] H := hP
      have hD : va_D A [(oc6 r (.ref rx) (.ref ry) (nI n) rg), (oa rx cI cap X), (oa ry cI cap Y)] := hD
      refine lv_icmp_ge (tgt := 28) hx hb dX7_isOnSet_7 (by decide) (fun c_1 => ?_) (fun c_1 => ?_)
      · have c_1 : ((prt n rg : Nat) : Int) ≤ ((i : Nat) : Int) := zc_le (nI_toInt (by omega)) (nI_toInt (by omega)) c_1
        refine lv_iconst (v := 0) hx hb dX7_isOnSet_28 (by decide) ?_
        have hP9 := hP.sub (ws' := [(oc6 r (.ref rx) (.ref ry) (nI n) rg), (oa rx cI cap X), (oa ry cI cap Y)]) [0, 1, 2] rfl
        have hD9 := hD.sub (ws' := [(oc6 r (.ref rx) (.ref ry) (nI n) rg), (oa rx cI cap X), (oa ry cI cap Y)]) [0, 1, 2] (by decide) rfl
        rw [hQ9]
        exact W.zret (ty := .boolean) (v := 0) hx hb hr (rfl) (fun t ht hW => ⟨⟨congrArg (fun z => Outcome.returned (some (Value.int z))) (show (0 : Int32) = pI (∃ i, i < prt n rg ∧ eOn n X Y i px.toInt py.toInt) from (zp_f (fun ⟨k, hk, h⟩ => hno k (by omega) h)).symm), by rw [ht]; exact hP9, hD9⟩, hS.F ht⟩) hS.2.2 dX7_isOnSet_29
      · have c_1 : ((i : Nat) : Int) < ((prt n rg : Nat) : Int) := zc_nle (nI_toInt (by omega)) (nI_toInt (by omega)) c_1
        refine lv_aload_n hx hb dX7_isOnSet_10 rfl (lv_at hl 1 rfl) ?_
        refine lv_iload_n hx hb dX7_isOnSet_11 rfl (lv_at hl 0 rfl) ?_
        refine lv_iload_n hx hb dX7_isOnSet_12 rfl (lv_at hl 2 rfl) ?_
        refine lv_iload_n hx hb dX7_isOnSet_13 rfl (lv_at hl 3 rfl) ?_
        have hPc := hP.sub (ws' := [(oc6 r (.ref rx) (.ref ry) (nI n) rg), (oa rx cI cap X), (oa ry cI cap Y)]) [0, 1, 2] rfl
        have hDc := hD.sub (ws' := [(oc6 r (.ref rx) (.ref ry) (nI n) rg), (oa rx cI cap X), (oa ry cI cap Y)]) [0, 1, 2] (by decide) rfl
        have hFc := va_free (wc := [(oc6 r (.ref rx) (.ref ry) (nI n) rg), (oa rx cI cap X), (oa ry cI cap Y)]) hD hS hA [0, 1, 2] rfl
        refine zcall (st1 := [.int (pI (eOn n X Y i px.toInt py.toInt))]) (va_runV (As := [.int (nI i), .int px, .int py]) (rest := []) ⟨hx, hb, hml, hown, hts⟩ (k_Row_isOn l dC dI cI cZ cF H.size r rx ry n cap X Y rg i px py (by omega) (by omega) (by assumption) (by omega) (by assumption) (by assumption)) (cwV 3 hts (zz_gV mw_626 mw_627 mw_628 mw_102 mc_yX7_isOn) rfl rfl rfl (by decide +kernel) ⟨Nat.le_of_ble_eq_true rfl, Nat.le_of_ble_eq_true rfl⟩) (zPV2 (q0 := 0) (ci := 6) hPc hDc hK hXN rfl rfl) rfl rfl hl.1 rfl (lv_room (Nat.le_of_ble_eq_true rfl)) dX7_isOnSet_14 ⟨Nat.le_of_ble_eq_true rfl, Nat.le_of_ble_eq_true rfl⟩) hS hFc hFc rfl (fun t H1 locs ht hB hk1 hS => ?_)
        obtain ⟨hP1, hD1⟩ := hB
        rw [ht] at hP1
        obtain ⟨hP, hD⟩ := va_join (wr := []) (w1 := [(oc6 r (.ref rx) (.ref ry) (nI n) rg), (oa rx cI cap X), (oa ry cI cap Y)]) hP hD [0, 1, 2] [] rfl rfl (by decide) (by decide) hk1 hFc hP1 hD1
        clear hk1 hPc hDc hFc hP1 hD1 ht
        generalize H1 = H at hP hS ⊢
        have hP : va_P (dC, dI) classes [(oc6 r (.ref rx) (.ref ry) (nI n) rg), (oa rx cI cap X), (oa ry cI cap Y)] H := hP
        have hD : va_D A [(oc6 r (.ref rx) (.ref ry) (nI n) rg), (oa rx cI cap X), (oa ry cI cap Y)] := hD
        refine lv_if_eq (tgt := 22) hx hb dX7_isOnSet_17 (by decide) (fun c_2 => ?_) (fun c_2 => ?_)
        · have c_2 : ¬ (eOn n X Y i px.toInt py.toInt) := zp_0 c_2
          refine lv_iinc (v := nI (i + 1)) (lv' := [(3, .int (nI (i + 1))), (0, .ref r), (1, .int px), (2, .int py)]) hx hb dX7_isOnSet_22 hl (k := 0) rfl (nI_add i 1) (by decide) rfl (fun ls hl => ?_)
          refine lv_goto (tgt := 2) hx hb dX7_isOnSet_25 (by decide) ?_
          exact ih_2 (i + 1) H locs ls (by omega) (by omega) (by intro k hk; rcases Nat.lt_or_ge k i with h | h; exact hno k h; have e9 : k = i := (by omega); subst e9; assumption) hP hD hS (lv_sub hl [0, 1, 2, 3] rfl)
        · have c_2 : eOn n X Y i px.toInt py.toInt := zp_1 c_2
          refine lv_iconst (v := 1) hx hb dX7_isOnSet_20 (by decide) ?_
          have hP9 := hP.sub (ws' := [(oc6 r (.ref rx) (.ref ry) (nI n) rg), (oa rx cI cap X), (oa ry cI cap Y)]) [0, 1, 2] rfl
          have hD9 := hD.sub (ws' := [(oc6 r (.ref rx) (.ref ry) (nI n) rg), (oa rx cI cap X), (oa ry cI cap Y)]) [0, 1, 2] (by decide) rfl
          rw [hQ9]
          exact W.zret (ty := .boolean) (v := 1) hx hb hr (rfl) (fun t ht hW => ⟨⟨congrArg (fun z => Outcome.returned (some (Value.int z))) (show (1 : Int32) = pI (∃ i, i < prt n rg ∧ eOn n X Y i px.toInt py.toInt) from (zp_t (⟨i, by omega, by assumption⟩)).symm), by rw [ht]; exact hP9, hD9⟩, hS.F ht⟩) hS.2.2 dX7_isOnSet_21
  exact hl_2 _ 0 s.heap [] ls (Nat.lt_succ_self _) (by omega) (by intro k hk; omega) hP hD hS (lv_sub hl [0, 1, 2, 3] rfl)
set_option maxHeartbeats 4000000 in
set_option maxRecDepth 100000 in
theorem k_Row_isCorner (l : Launch) (dC : Nat → ClassId) (dI : Nat → Nat → Nat) (cI cZ cF : ClassId) (sz : Nat) (r : Nat) (rx : Nat) (ry : Nat) (n : Nat) (cap : Nat) (X : Nat → Int32) (Y : Nat → Int32) (rg : Int32) (i : Nat) (px : Int32) (py : Int32) (hn : n ≤ cap) (hcap : cap ≤ 1000) (hi : i < n) : Met l yX7_isCorner (.code yX7_isCorner cX7_isCorner 4 (some .boolean) :: ws0) ({ frames := 0, cells := 0, slots := 0, locals := 0 } : Room) (va_Pc [.ref r, .int (nI i), .int px, .int py] (zPre (dC, dI) classes (zTy cI cZ cF) [(oc6 r (.ref rx) (.ref ry) (nI n) rg), (oa rx cI cap X), (oa ry cI cap Y)] sz zXN)) (zQ (some (.int (pI ((X i).toInt = px.toInt ∧ (Y i).toInt = py.toInt)))) (fun t => va_P (dC, dI) classes [(oc6 r (.ref rx) (.ref ry) (nI n) rg), (oa rx cI cap X), (oa ry cI cap Y)] t.heap ∧ va_D (va_A [(oc6 r (.ref rx) (.ref ry) (nI n) rg), (oa rx cI cap X), (oa ry cI cap Y)] sz) [(oc6 r (.ref rx) (.ref ry) (nI n) rg), (oa rx cI cap X), (oa ry cI cap Y)]) (va_A [(oc6 r (.ref rx) (.ref ry) (nI n) rg), (oa rx cI cap X), (oa ry cI cap Y)] sz)) 0 0 (va_A [(oc6 r (.ref rx) (.ref ry) (nI n) rg), (oa rx cI cap X), (oa ry cI cap Y)] sz) := by
  refine Met.ofW (cc := cX7_isCorner) (maxL := 4) (ret := (some .boolean)) (by decide) rfl ?_
  intro p e s m args below meth c s₁ B hml hv
  obtain ⟨rfl, hsz, hP, hK, hD0, hXN⟩ := hv
  have hx := B.exec
  have hb := B.bytes
  have hr := B.returns
  have hts0 := atoms_spec (ws := .code yX7_isCorner cX7_isCorner 4 (some .boolean) :: ws0) B.pre
  have hts : ∀ w9 ∈ ws0, w9.before ([.ref r, .int (nI i), .int px, .int py] : List Value).toArray s = true := fun w9 h => hts0 w9 (List.mem_cons_of_mem _ h)
  have hown : s.vm.findClass "ScaleShop$Row" = some m.cls := findClass_of_methodNamed B.named
  have hlocks := B.notSynchronized
  subst hsz
  have hD := hD0.self (sz := s.heap.size)
  clear hD0
  generalize hAe : va_A [(oc6 r (.ref rx) (.ref ry) (nI n) rg), (oa rx cI cap X), (oa ry cI cap Y)] s.heap.size = A at hD ⊢
  have hA : ∀ q : Nat, s.heap.size ≤ q → A q := fun q h => by rw [← hAe]; exact Or.inr h
  clear hAe
  have hS : va_S A s.heap s.heap [] := va_S.rf
  have hP : va_P (dC, dI) classes [(oc6 r (.ref rx) (.ref ry) (nI n) rg), (oa rx cI cap X), (oa ry cI cap Y)] s.heap := hP
  obtain ⟨Q9, hQ9⟩ : ∃ Q9 : State → Prop, Q9 = MQ below (zQ (some (.int (pI ((X i).toInt = px.toInt ∧ (Y i).toInt = py.toInt)))) (fun t => va_P (dC, dI) classes [(oc6 r (.ref rx) (.ref ry) (nI n) rg), (oa rx cI cap X), (oa ry cI cap Y)] t.heap ∧ va_D A [(oc6 r (.ref rx) (.ref ry) (nI n) rg), (oa rx cI cap X), (oa ry cI cap Y)]) A) ([.ref r, .int (nI i), .int px, .int py] : List Value).toArray s 0 0 A := ⟨_, rfl⟩
  rw [← hQ9]
  have hl := lv_entry ([.ref r, .int (nI i), .int px, .int py]) (n := 4) (Nat.le_of_ble_eq_true rfl)
  rw [lg_entry_eq]
  generalize (lg_sl ([.ref r, .int (nI i), .int px, .int py]) ++ List.replicate (4 - (lg_sl ([.ref r, .int (nI i), .int px, .int py])).length) Slot.unset).toArray = ls at hl ⊢
  have hl : lv_has ls 4 [(0, .ref r), (1, .int (nI i)), (2, .int px), (3, .int py)] := hl
  refine lv_aload_n hx hb dX7_isCorner_0 rfl (lv_at hl 0 rfl) ?_
  refine va_get (D := (dC, dI)) (ci := 6) (v := .ref rx) (C := RX7) (T := TX7) (N := 4) hx hb hts inX7 hown hK hP 0 rfl rfl 0 (by decide) (hts _ mw_161) (fun _ h9 => h9) rfl dX7_isCorner_1 ?_
  refine lv_iload_n hx hb dX7_isCorner_4 rfl (lv_at hl 1 rfl) ?_
  refine z_iald hx hb hK hP 1 0 rfl rfl (e := i) rfl (by omega) (by omega) dX7_isCorner_5 ?_
  refine lv_iload_n hx hb dX7_isCorner_6 rfl (lv_at hl 2 rfl) ?_
  refine lv_icmp_ne (tgt := 24) hx hb dX7_isCorner_7 (by decide) (fun c_1 => ?_) (fun c_1 => ?_)
  · have c_1 : ¬ (X i).toInt = px.toInt := zc_ne rfl rfl c_1
    refine lv_iconst (v := 0) hx hb dX7_isCorner_24 (by decide) ?_
    have hP9 := hP.sub (ws' := [(oc6 r (.ref rx) (.ref ry) (nI n) rg), (oa rx cI cap X), (oa ry cI cap Y)]) [0, 1, 2] rfl
    have hD9 := hD.sub (ws' := [(oc6 r (.ref rx) (.ref ry) (nI n) rg), (oa rx cI cap X), (oa ry cI cap Y)]) [0, 1, 2] (by decide) rfl
    rw [hQ9]
    exact W.zret (ty := .boolean) (v := 0) hx hb hr (rfl) (fun t ht hW => ⟨⟨congrArg (fun z => Outcome.returned (some (Value.int z))) (show (0 : Int32) = pI ((X i).toInt = px.toInt ∧ (Y i).toInt = py.toInt) from (zp_f (by omega)).symm), by rw [ht]; exact hP9, hD9⟩, hS.F ht⟩) hS.2.2 dX7_isCorner_25
  · have c_1 : (X i).toInt = px.toInt := zc_eq rfl rfl c_1
    refine lv_aload_n hx hb dX7_isCorner_10 rfl (lv_at hl 0 rfl) ?_
    refine va_get (D := (dC, dI)) (ci := 6) (v := .ref ry) (C := RX7) (T := TX7) (N := 4) hx hb hts inX7 hown hK hP 0 rfl rfl 1 (by decide) (hts _ mw_168) (fun _ h9 => h9) rfl dX7_isCorner_11 ?_
    refine lv_iload_n hx hb dX7_isCorner_14 rfl (lv_at hl 1 rfl) ?_
    refine z_iald hx hb hK hP 2 0 rfl rfl (e := i) rfl (by omega) (by omega) dX7_isCorner_15 ?_
    refine lv_iload_n hx hb dX7_isCorner_16 rfl (lv_at hl 3 rfl) ?_
    refine lv_icmp_ne (tgt := 24) hx hb dX7_isCorner_17 (by decide) (fun c_2 => ?_) (fun c_2 => ?_)
    · have c_2 : ¬ (Y i).toInt = py.toInt := zc_ne rfl rfl c_2
      refine lv_iconst (v := 0) hx hb dX7_isCorner_24 (by decide) ?_
      have hP9 := hP.sub (ws' := [(oc6 r (.ref rx) (.ref ry) (nI n) rg), (oa rx cI cap X), (oa ry cI cap Y)]) [0, 1, 2] rfl
      have hD9 := hD.sub (ws' := [(oc6 r (.ref rx) (.ref ry) (nI n) rg), (oa rx cI cap X), (oa ry cI cap Y)]) [0, 1, 2] (by decide) rfl
      rw [hQ9]
      exact W.zret (ty := .boolean) (v := 0) hx hb hr (rfl) (fun t ht hW => ⟨⟨congrArg (fun z => Outcome.returned (some (Value.int z))) (show (0 : Int32) = pI ((X i).toInt = px.toInt ∧ (Y i).toInt = py.toInt) from (zp_f (by omega)).symm), by rw [ht]; exact hP9, hD9⟩, hS.F ht⟩) hS.2.2 dX7_isCorner_25
    · have c_2 : (Y i).toInt = py.toInt := zc_eq rfl rfl c_2
      refine lv_iconst (v := 1) hx hb dX7_isCorner_20 (by decide) ?_
      refine lv_goto (tgt := 25) hx hb dX7_isCorner_21 (by decide) ?_
      have hP9 := hP.sub (ws' := [(oc6 r (.ref rx) (.ref ry) (nI n) rg), (oa rx cI cap X), (oa ry cI cap Y)]) [0, 1, 2] rfl
      have hD9 := hD.sub (ws' := [(oc6 r (.ref rx) (.ref ry) (nI n) rg), (oa rx cI cap X), (oa ry cI cap Y)]) [0, 1, 2] (by decide) rfl
      rw [hQ9]
      exact W.zret (ty := .boolean) (v := 1) hx hb hr (rfl) (fun t ht hW => ⟨⟨congrArg (fun z => Outcome.returned (some (Value.int z))) (show (1 : Int32) = pI ((X i).toInt = px.toInt ∧ (Y i).toInt = py.toInt) from (zp_t (by omega)).symm), by rw [ht]; exact hP9, hD9⟩, hS.F ht⟩) hS.2.2 dX7_isCorner_25
set_option maxHeartbeats 4000000 in
set_option maxRecDepth 100000 in
theorem k_Row_partsMeet (l : Launch) (dC : Nat → ClassId) (dI : Nat → Nat → Nat) (cI cZ cF : ClassId) (sz : Nat) (r : Nat) (rx : Nat) (ry : Nat) (n : Nat) (cap : Nat) (X : Nat → Int32) (Y : Nat → Int32) (rg : Int32) (u : Nat) (ux : Nat) (uy : Nat) (m2 : Nat) (cap2 : Nat) (U : Nat → Int32) (V : Nat → Int32) (rh : Int32) (i : Nat) (j : Nat) (hn : n ≤ cap) (hcap : cap ≤ 1000) (hp : pls n X Y) (hm : m2 ≤ cap2) (hcap2 : cap2 ≤ 1000) (hq : pls m2 U V) (hi : i < n) (hj : j < m2) : Met l yX7_partsMeet (.code yX7_partsMeet cX7_partsMeet 18 (some .boolean) :: ws0) ({ frames := 0, cells := 0, slots := 0, locals := 0 } : Room) (va_Pc [.ref r, .int (nI i), .ref u, .int (nI j)] (zPre (dC, dI) classes (zTy cI cZ cF) [(oc6 r (.ref rx) (.ref ry) (nI n) rg), (oa rx cI cap X), (oa ry cI cap Y), (oc6 u (.ref ux) (.ref uy) (nI m2) rh), (oa ux cI cap2 U), (oa uy cI cap2 V)] sz zXN)) (zQ (some (.int (pI (eMt n X Y i m2 U V j)))) (fun t => va_P (dC, dI) classes [(oc6 r (.ref rx) (.ref ry) (nI n) rg), (oa rx cI cap X), (oa ry cI cap Y), (oc6 u (.ref ux) (.ref uy) (nI m2) rh), (oa ux cI cap2 U), (oa uy cI cap2 V)] t.heap ∧ va_D (va_A [(oc6 r (.ref rx) (.ref ry) (nI n) rg), (oa rx cI cap X), (oa ry cI cap Y), (oc6 u (.ref ux) (.ref uy) (nI m2) rh), (oa ux cI cap2 U), (oa uy cI cap2 V)] sz) [(oc6 r (.ref rx) (.ref ry) (nI n) rg), (oa rx cI cap X), (oa ry cI cap Y), (oc6 u (.ref ux) (.ref uy) (nI m2) rh), (oa ux cI cap2 U), (oa uy cI cap2 V)]) (va_A [(oc6 r (.ref rx) (.ref ry) (nI n) rg), (oa rx cI cap X), (oa ry cI cap Y), (oc6 u (.ref ux) (.ref uy) (nI m2) rh), (oa ux cI cap2 U), (oa uy cI cap2 V)] sz)) 0 0 (va_A [(oc6 r (.ref rx) (.ref ry) (nI n) rg), (oa rx cI cap X), (oa ry cI cap Y), (oc6 u (.ref ux) (.ref uy) (nI m2) rh), (oa ux cI cap2 U), (oa uy cI cap2 V)] sz) := by
  refine Met.ofW (cc := cX7_partsMeet) (maxL := 18) (ret := (some .boolean)) (by decide) rfl ?_
  intro p e s m args below meth c s₁ B hml hv
  obtain ⟨rfl, hsz, hP, hK, hD0, hXN⟩ := hv
  have hx := B.exec
  have hb := B.bytes
  have hr := B.returns
  have hts0 := atoms_spec (ws := .code yX7_partsMeet cX7_partsMeet 18 (some .boolean) :: ws0) B.pre
  have hts : ∀ w9 ∈ ws0, w9.before ([.ref r, .int (nI i), .ref u, .int (nI j)] : List Value).toArray s = true := fun w9 h => hts0 w9 (List.mem_cons_of_mem _ h)
  have hown : s.vm.findClass "ScaleShop$Row" = some m.cls := findClass_of_methodNamed B.named
  have hlocks := B.notSynchronized
  subst hsz
  have hD := hD0.self (sz := s.heap.size)
  clear hD0
  generalize hAe : va_A [(oc6 r (.ref rx) (.ref ry) (nI n) rg), (oa rx cI cap X), (oa ry cI cap Y), (oc6 u (.ref ux) (.ref uy) (nI m2) rh), (oa ux cI cap2 U), (oa uy cI cap2 V)] s.heap.size = A at hD ⊢
  have hA : ∀ q : Nat, s.heap.size ≤ q → A q := fun q h => by rw [← hAe]; exact Or.inr h
  clear hAe
  have hS : va_S A s.heap s.heap [] := va_S.rf
  have hP : va_P (dC, dI) classes [(oc6 r (.ref rx) (.ref ry) (nI n) rg), (oa rx cI cap X), (oa ry cI cap Y), (oc6 u (.ref ux) (.ref uy) (nI m2) rh), (oa ux cI cap2 U), (oa uy cI cap2 V)] s.heap := hP
  obtain ⟨Q9, hQ9⟩ : ∃ Q9 : State → Prop, Q9 = MQ below (zQ (some (.int (pI (eMt n X Y i m2 U V j)))) (fun t => va_P (dC, dI) classes [(oc6 r (.ref rx) (.ref ry) (nI n) rg), (oa rx cI cap X), (oa ry cI cap Y), (oc6 u (.ref ux) (.ref uy) (nI m2) rh), (oa ux cI cap2 U), (oa uy cI cap2 V)] t.heap ∧ va_D A [(oc6 r (.ref rx) (.ref ry) (nI n) rg), (oa rx cI cap X), (oa ry cI cap Y), (oc6 u (.ref ux) (.ref uy) (nI m2) rh), (oa ux cI cap2 U), (oa uy cI cap2 V)]) A) ([.ref r, .int (nI i), .ref u, .int (nI j)] : List Value).toArray s 0 0 A := ⟨_, rfl⟩
  rw [← hQ9]
  have hl := lv_entry ([.ref r, .int (nI i), .ref u, .int (nI j)]) (n := 18) (Nat.le_of_ble_eq_true rfl)
  rw [lg_entry_eq]
  generalize (lg_sl ([.ref r, .int (nI i), .ref u, .int (nI j)]) ++ List.replicate (18 - (lg_sl ([.ref r, .int (nI i), .ref u, .int (nI j)])).length) Slot.unset).toArray = ls at hl ⊢
  have hl : lv_has ls 18 [(0, .ref r), (1, .int (nI i)), (2, .ref u), (3, .int (nI j))] := hl
  refine lv_iload_n hx hb dX7_partsMeet_0 rfl (lv_at hl 1 rfl) ?_
  refine lv_iconst (v := 1) hx hb dX7_partsMeet_1 (by decide) ?_
  refine lv_iadd hx hb dX7_partsMeet_2 ?_
  refine zz_i (v := nI (i + 1)) (nI_add i 1) ?_
  refine lv_aload_n hx hb dX7_partsMeet_3 rfl (lv_at hl 0 rfl) ?_
  refine va_get (D := (dC, dI)) (ci := 6) (v := .int (nI n)) (C := RX7) (T := TX7) (N := 4) hx hb hts inX7 hown hK hP 0 rfl rfl 2 (by decide) (hts _ mw_175) (fun _ h9 => h9) rfl dX7_partsMeet_4 ?_
  have hj_1 : W p l e ((headSpec (.code yX7_partsMeet cX7_partsMeet 18 (some .boolean) :: ws0) ({ frames := 0, cells := 0, slots := 0, locals := 0 } : Room)).room) s m ([.ref r, .int (nI i), .ref u, .int (nI j)] : List Value).toArray below meth c s.heap [] 0 0 Q9 (F0 m 17 ls [.int (nI (nxt n i))]) := by
    have hnx := nxt_lt (n := n) (i := i) (by omega)
    refine lv_istore (lv' := [(4, .int (nI (nxt n i))), (0, .ref r), (1, .int (nI i)), (2, .ref u), (3, .int (nI j))]) hx hb dX7_partsMeet_17 hl (by decide) rfl (fun ls hl => ?_)
    refine lv_iload_n hx hb dX7_partsMeet_19 rfl (lv_at hl 4 rfl) ?_
    refine lv_iconst (v := 1) hx hb dX7_partsMeet_20 (by decide) ?_
    refine lv_iadd hx hb dX7_partsMeet_21 ?_
    refine zz_i (v := nI (j + 1)) (nI_add j 1) ?_
    refine lv_aload_n hx hb dX7_partsMeet_22 rfl (lv_at hl 3 rfl) ?_
    refine va_get (D := (dC, dI)) (ci := 6) (v := .int (nI m2)) (C := RX7) (T := TX7) (N := 4) hx hb hts inX7 hown hK hP 3 rfl rfl 2 (by decide) (hts _ mw_175) (fun _ h9 => h9) rfl dX7_partsMeet_23 ?_
    have hj_2 : W p l e ((headSpec (.code yX7_partsMeet cX7_partsMeet 18 (some .boolean) :: ws0) ({ frames := 0, cells := 0, slots := 0, locals := 0 } : Room)).room) s m ([.ref r, .int (nI i), .ref u, .int (nI j)] : List Value).toArray below meth c s.heap [] 0 0 Q9 (F0 m 36 ls [.int (nI (nxt m2 j))]) := by
      have hnj := nxt_lt (n := m2) (i := j) (by omega)
      refine lv_istore (lv' := [(5, .int (nI (nxt m2 j))), (4, .int (nI (nxt n i))), (0, .ref r), (1, .int (nI i)), (2, .ref u), (3, .int (nI j))]) hx hb dX7_partsMeet_36 hl (by decide) rfl (fun ls hl => ?_)
      refine lv_aload_n hx hb dX7_partsMeet_38 rfl (lv_at hl 2 rfl) ?_
      refine va_get (D := (dC, dI)) (ci := 6) (v := .ref rx) (C := RX7) (T := TX7) (N := 4) hx hb hts inX7 hown hK hP 0 rfl rfl 0 (by decide) (hts _ mw_161) (fun _ h9 => h9) rfl dX7_partsMeet_39 ?_
      refine lv_iload_n hx hb dX7_partsMeet_42 rfl (lv_at hl 3 rfl) ?_
      refine z_iald hx hb hK hP 1 0 rfl rfl (e := i) rfl (by omega) (by omega) dX7_partsMeet_43 ?_
      refine lv_istore (lv' := [(6, .int (X i)), (5, .int (nI (nxt m2 j))), (4, .int (nI (nxt n i))), (0, .ref r), (1, .int (nI i)), (2, .ref u), (3, .int (nI j))]) hx hb dX7_partsMeet_44 hl (by decide) rfl (fun ls hl => ?_)
      refine lv_aload_n hx hb dX7_partsMeet_46 rfl (lv_at hl 3 rfl) ?_
      refine va_get (D := (dC, dI)) (ci := 6) (v := .ref ry) (C := RX7) (T := TX7) (N := 4) hx hb hts inX7 hown hK hP 0 rfl rfl 1 (by decide) (hts _ mw_168) (fun _ h9 => h9) rfl dX7_partsMeet_47 ?_
      refine lv_iload_n hx hb dX7_partsMeet_50 rfl (lv_at hl 4 rfl) ?_
      refine z_iald hx hb hK hP 2 0 rfl rfl (e := i) rfl (by omega) (by omega) dX7_partsMeet_51 ?_
      refine lv_istore (lv' := [(7, .int (Y i)), (6, .int (X i)), (5, .int (nI (nxt m2 j))), (4, .int (nI (nxt n i))), (0, .ref r), (1, .int (nI i)), (2, .ref u), (3, .int (nI j))]) hx hb dX7_partsMeet_52 hl (by decide) rfl (fun ls hl => ?_)
      refine lv_aload_n hx hb dX7_partsMeet_54 rfl (lv_at hl 4 rfl) ?_
      refine va_get (D := (dC, dI)) (ci := 6) (v := .ref rx) (C := RX7) (T := TX7) (N := 4) hx hb hts inX7 hown hK hP 0 rfl rfl 0 (by decide) (hts _ mw_161) (fun _ h9 => h9) rfl dX7_partsMeet_55 ?_
      refine lv_iload hx hb dX7_partsMeet_58 (lv_at hl 3 rfl) ?_
      refine z_iald hx hb hK hP 1 0 rfl rfl (e := nxt n i) rfl (by omega) (by omega) dX7_partsMeet_60 ?_
      refine lv_istore (lv' := [(8, .int (X (nxt n i))), (7, .int (Y i)), (6, .int (X i)), (5, .int (nI (nxt m2 j))), (4, .int (nI (nxt n i))), (0, .ref r), (1, .int (nI i)), (2, .ref u), (3, .int (nI j))]) hx hb dX7_partsMeet_61 hl (by decide) rfl (fun ls hl => ?_)
      refine lv_aload_n hx hb dX7_partsMeet_63 rfl (lv_at hl 5 rfl) ?_
      refine va_get (D := (dC, dI)) (ci := 6) (v := .ref ry) (C := RX7) (T := TX7) (N := 4) hx hb hts inX7 hown hK hP 0 rfl rfl 1 (by decide) (hts _ mw_168) (fun _ h9 => h9) rfl dX7_partsMeet_64 ?_
      refine lv_iload hx hb dX7_partsMeet_67 (lv_at hl 4 rfl) ?_
      refine z_iald hx hb hK hP 2 0 rfl rfl (e := nxt n i) rfl (by omega) (by omega) dX7_partsMeet_69 ?_
      refine lv_istore (lv' := [(9, .int (Y (nxt n i))), (8, .int (X (nxt n i))), (7, .int (Y i)), (6, .int (X i)), (5, .int (nI (nxt m2 j))), (4, .int (nI (nxt n i))), (0, .ref r), (1, .int (nI i)), (2, .ref u), (3, .int (nI j))]) hx hb dX7_partsMeet_70 hl (by decide) rfl (fun ls hl => ?_)
      refine lv_aload_n hx hb dX7_partsMeet_72 rfl (lv_at hl 8 rfl) ?_
      refine va_get (D := (dC, dI)) (ci := 6) (v := .ref ux) (C := RX7) (T := TX7) (N := 4) hx hb hts inX7 hown hK hP 3 rfl rfl 0 (by decide) (hts _ mw_161) (fun _ h9 => h9) rfl dX7_partsMeet_73 ?_
      refine lv_iload_n hx hb dX7_partsMeet_76 rfl (lv_at hl 9 rfl) ?_
      refine z_iald hx hb hK hP 4 0 rfl rfl (e := j) rfl (by omega) (by omega) dX7_partsMeet_77 ?_
      refine lv_istore (lv' := [(10, .int (U j)), (9, .int (Y (nxt n i))), (8, .int (X (nxt n i))), (7, .int (Y i)), (6, .int (X i)), (5, .int (nI (nxt m2 j))), (4, .int (nI (nxt n i))), (0, .ref r), (1, .int (nI i)), (2, .ref u), (3, .int (nI j))]) hx hb dX7_partsMeet_78 hl (by decide) rfl (fun ls hl => ?_)
      refine lv_aload_n hx hb dX7_partsMeet_80 rfl (lv_at hl 9 rfl) ?_
      refine va_get (D := (dC, dI)) (ci := 6) (v := .ref uy) (C := RX7) (T := TX7) (N := 4) hx hb hts inX7 hown hK hP 3 rfl rfl 1 (by decide) (hts _ mw_168) (fun _ h9 => h9) rfl dX7_partsMeet_81 ?_
      refine lv_iload_n hx hb dX7_partsMeet_84 rfl (lv_at hl 10 rfl) ?_
      refine z_iald hx hb hK hP 5 0 rfl rfl (e := j) rfl (by omega) (by omega) dX7_partsMeet_85 ?_
      refine lv_istore (lv' := [(11, .int (V j)), (10, .int (U j)), (9, .int (Y (nxt n i))), (8, .int (X (nxt n i))), (7, .int (Y i)), (6, .int (X i)), (5, .int (nI (nxt m2 j))), (4, .int (nI (nxt n i))), (0, .ref r), (1, .int (nI i)), (2, .ref u), (3, .int (nI j))]) hx hb dX7_partsMeet_86 hl (by decide) rfl (fun ls hl => ?_)
      refine lv_aload_n hx hb dX7_partsMeet_88 rfl (lv_at hl 10 rfl) ?_
      refine va_get (D := (dC, dI)) (ci := 6) (v := .ref ux) (C := RX7) (T := TX7) (N := 4) hx hb hts inX7 hown hK hP 3 rfl rfl 0 (by decide) (hts _ mw_161) (fun _ h9 => h9) rfl dX7_partsMeet_89 ?_
      refine lv_iload hx hb dX7_partsMeet_92 (lv_at hl 6 rfl) ?_
      refine z_iald hx hb hK hP 4 0 rfl rfl (e := nxt m2 j) rfl (by omega) (by omega) dX7_partsMeet_94 ?_
      refine lv_istore (lv' := [(12, .int (U (nxt m2 j))), (11, .int (V j)), (10, .int (U j)), (9, .int (Y (nxt n i))), (8, .int (X (nxt n i))), (7, .int (Y i)), (6, .int (X i)), (5, .int (nI (nxt m2 j))), (4, .int (nI (nxt n i))), (0, .ref r), (1, .int (nI i)), (2, .ref u), (3, .int (nI j))]) hx hb dX7_partsMeet_95 hl (by decide) rfl (fun ls hl => ?_)
      refine lv_aload_n hx hb dX7_partsMeet_97 rfl (lv_at hl 11 rfl) ?_
      refine va_get (D := (dC, dI)) (ci := 6) (v := .ref uy) (C := RX7) (T := TX7) (N := 4) hx hb hts inX7 hown hK hP 3 rfl rfl 1 (by decide) (hts _ mw_168) (fun _ h9 => h9) rfl dX7_partsMeet_98 ?_
      refine lv_iload hx hb dX7_partsMeet_101 (lv_at hl 7 rfl) ?_
      refine z_iald hx hb hK hP 5 0 rfl rfl (e := nxt m2 j) rfl (by omega) (by omega) dX7_partsMeet_103 ?_
      refine lv_istore (lv' := [(13, .int (V (nxt m2 j))), (12, .int (U (nxt m2 j))), (11, .int (V j)), (10, .int (U j)), (9, .int (Y (nxt n i))), (8, .int (X (nxt n i))), (7, .int (Y i)), (6, .int (X i)), (5, .int (nI (nxt m2 j))), (4, .int (nI (nxt n i))), (0, .ref r), (1, .int (nI i)), (2, .ref u), (3, .int (nI j))]) hx hb dX7_partsMeet_104 hl (by decide) rfl (fun ls hl => ?_)
      have hj_3 : (¬ (((X i).toInt < (U j).toInt ∧ (X (nxt n i)).toInt < (U j).toInt ∧ (X i).toInt < (U (nxt m2 j)).toInt ∧ (X (nxt n i)).toInt < (U (nxt m2 j)).toInt) ∨ ((U j).toInt < (X i).toInt ∧ (U j).toInt < (X (nxt n i)).toInt ∧ (U (nxt m2 j)).toInt < (X i).toInt ∧ (U (nxt m2 j)).toInt < (X (nxt n i)).toInt))) → W p l e ((headSpec (.code yX7_partsMeet cX7_partsMeet 18 (some .boolean) :: ws0) ({ frames := 0, cells := 0, slots := 0, locals := 0 } : Room)).room) s m ([.ref r, .int (nI i), .ref u, .int (nI j)] : List Value).toArray below meth c s.heap [] 0 0 Q9 (F0 m 164 ls []) := by
        intro hbx
        have hj_4 : (¬ (((Y i).toInt < (V j).toInt ∧ (Y (nxt n i)).toInt < (V j).toInt ∧ (Y i).toInt < (V (nxt m2 j)).toInt ∧ (Y (nxt n i)).toInt < (V (nxt m2 j)).toInt) ∨ ((V j).toInt < (Y i).toInt ∧ (V j).toInt < (Y (nxt n i)).toInt ∧ (V (nxt m2 j)).toInt < (Y i).toInt ∧ (V (nxt m2 j)).toInt < (Y (nxt n i)).toInt))) → W p l e ((headSpec (.code yX7_partsMeet cX7_partsMeet 18 (some .boolean) :: ws0) ({ frames := 0, cells := 0, slots := 0, locals := 0 } : Room)).room) s m ([.ref r, .int (nI i), .ref u, .int (nI j)] : List Value).toArray below meth c s.heap [] 0 0 Q9 (F0 m 222 ls []) := by
          intro hby
          refine lv_iload hx hb dX7_partsMeet_222 (lv_at hl 5 rfl) ?_
          refine lv_iload hx hb dX7_partsMeet_224 (lv_at hl 7 rfl) ?_
          refine lv_isub hx hb dX7_partsMeet_226 ?_
          refine lv_iload hx hb dX7_partsMeet_227 (lv_at hl 2 rfl) ?_
          refine lv_iload hx hb dX7_partsMeet_229 (lv_at hl 6 rfl) ?_
          refine lv_isub hx hb dX7_partsMeet_231 ?_
          refine lv_imul hx hb dX7_partsMeet_232 ?_
          refine lv_iload hx hb dX7_partsMeet_233 (lv_at hl 4 rfl) ?_
          refine lv_iload hx hb dX7_partsMeet_235 (lv_at hl 6 rfl) ?_
          refine lv_isub hx hb dX7_partsMeet_237 ?_
          refine lv_iload hx hb dX7_partsMeet_238 (lv_at hl 3 rfl) ?_
          refine lv_iload hx hb dX7_partsMeet_240 (lv_at hl 7 rfl) ?_
          refine lv_isub hx hb dX7_partsMeet_242 ?_
          refine lv_imul hx hb dX7_partsMeet_243 ?_
          refine lv_isub hx hb dX7_partsMeet_244 ?_
          refine zz_i (v := iI (cr (X i).toInt (Y i).toInt (X (nxt n i)).toInt (Y (nxt n i)).toInt (U j).toInt (V j).toInt)) (crI (hp i hi).1 (hp i hi).2 (hp _ hnx).1 (hp _ hnx).2 (hq j hj).1 (hq j hj).2) ?_
          have hB1 := crBp (hp i hi).1 (hp i hi).2 (hp _ hnx).1 (hp _ hnx).2 (hq j hj).1 (hq j hj).2
          refine lv_istore (lv' := [(14, .int (iI (cr (X i).toInt (Y i).toInt (X (nxt n i)).toInt (Y (nxt n i)).toInt (U j).toInt (V j).toInt))), (13, .int (V (nxt m2 j))), (12, .int (U (nxt m2 j))), (11, .int (V j)), (10, .int (U j)), (9, .int (Y (nxt n i))), (8, .int (X (nxt n i))), (7, .int (Y i)), (6, .int (X i)), (5, .int (nI (nxt m2 j))), (4, .int (nI (nxt n i))), (0, .ref r), (1, .int (nI i)), (2, .ref u), (3, .int (nI j))]) hx hb dX7_partsMeet_245 hl (by decide) rfl (fun ls hl => ?_)
          refine lv_iload hx hb dX7_partsMeet_247 (lv_at hl 6 rfl) ?_
          refine lv_iload hx hb dX7_partsMeet_249 (lv_at hl 8 rfl) ?_
          refine lv_isub hx hb dX7_partsMeet_251 ?_
          refine lv_iload hx hb dX7_partsMeet_252 (lv_at hl 1 rfl) ?_
          refine lv_iload hx hb dX7_partsMeet_254 (lv_at hl 7 rfl) ?_
          refine lv_isub hx hb dX7_partsMeet_256 ?_
          refine lv_imul hx hb dX7_partsMeet_257 ?_
          refine lv_iload hx hb dX7_partsMeet_258 (lv_at hl 5 rfl) ?_
          refine lv_iload hx hb dX7_partsMeet_260 (lv_at hl 7 rfl) ?_
          refine lv_isub hx hb dX7_partsMeet_262 ?_
          refine lv_iload hx hb dX7_partsMeet_263 (lv_at hl 2 rfl) ?_
          refine lv_iload hx hb dX7_partsMeet_265 (lv_at hl 8 rfl) ?_
          refine lv_isub hx hb dX7_partsMeet_267 ?_
          refine lv_imul hx hb dX7_partsMeet_268 ?_
          refine lv_isub hx hb dX7_partsMeet_269 ?_
          refine zz_i (v := iI (cr (X i).toInt (Y i).toInt (X (nxt n i)).toInt (Y (nxt n i)).toInt (U (nxt m2 j)).toInt (V (nxt m2 j)).toInt)) (crI (hp i hi).1 (hp i hi).2 (hp _ hnx).1 (hp _ hnx).2 (hq _ hnj).1 (hq _ hnj).2) ?_
          have hB2 := crBp (hp i hi).1 (hp i hi).2 (hp _ hnx).1 (hp _ hnx).2 (hq _ hnj).1 (hq _ hnj).2
          refine lv_istore (lv' := [(15, .int (iI (cr (X i).toInt (Y i).toInt (X (nxt n i)).toInt (Y (nxt n i)).toInt (U (nxt m2 j)).toInt (V (nxt m2 j)).toInt))), (14, .int (iI (cr (X i).toInt (Y i).toInt (X (nxt n i)).toInt (Y (nxt n i)).toInt (U j).toInt (V j).toInt))), (13, .int (V (nxt m2 j))), (12, .int (U (nxt m2 j))), (11, .int (V j)), (10, .int (U j)), (9, .int (Y (nxt n i))), (8, .int (X (nxt n i))), (7, .int (Y i)), (6, .int (X i)), (5, .int (nI (nxt m2 j))), (4, .int (nI (nxt n i))), (0, .ref r), (1, .int (nI i)), (2, .ref u), (3, .int (nI j))]) hx hb dX7_partsMeet_270 hl (by decide) rfl (fun ls hl => ?_)
          have hj_5 : (¬ ((0 < cr (X i).toInt (Y i).toInt (X (nxt n i)).toInt (Y (nxt n i)).toInt (U j).toInt (V j).toInt ∧ 0 < cr (X i).toInt (Y i).toInt (X (nxt n i)).toInt (Y (nxt n i)).toInt (U (nxt m2 j)).toInt (V (nxt m2 j)).toInt) ∨ (cr (X i).toInt (Y i).toInt (X (nxt n i)).toInt (Y (nxt n i)).toInt (U j).toInt (V j).toInt < 0 ∧ cr (X i).toInt (Y i).toInt (X (nxt n i)).toInt (Y (nxt n i)).toInt (U (nxt m2 j)).toInt (V (nxt m2 j)).toInt < 0))) → W p l e ((headSpec (.code yX7_partsMeet cX7_partsMeet 18 (some .boolean) :: ws0) ({ frames := 0, cells := 0, slots := 0, locals := 0 } : Room)).room) s m ([.ref r, .int (nI i), .ref u, .int (nI j)] : List Value).toArray below meth c s.heap [] 0 0 Q9 (F0 m 294 ls []) := by
            intro hs1
            refine lv_iload hx hb dX7_partsMeet_294 (lv_at hl 3 rfl) ?_
            refine lv_iload hx hb dX7_partsMeet_296 (lv_at hl 5 rfl) ?_
            refine lv_isub hx hb dX7_partsMeet_298 ?_
            refine lv_iload hx hb dX7_partsMeet_299 (lv_at hl 8 rfl) ?_
            refine lv_iload hx hb dX7_partsMeet_301 (lv_at hl 4 rfl) ?_
            refine lv_isub hx hb dX7_partsMeet_303 ?_
            refine lv_imul hx hb dX7_partsMeet_304 ?_
            refine lv_iload hx hb dX7_partsMeet_305 (lv_at hl 2 rfl) ?_
            refine lv_iload hx hb dX7_partsMeet_307 (lv_at hl 4 rfl) ?_
            refine lv_isub hx hb dX7_partsMeet_309 ?_
            refine lv_iload hx hb dX7_partsMeet_310 (lv_at hl 9 rfl) ?_
            refine lv_iload hx hb dX7_partsMeet_312 (lv_at hl 5 rfl) ?_
            refine lv_isub hx hb dX7_partsMeet_314 ?_
            refine lv_imul hx hb dX7_partsMeet_315 ?_
            refine lv_isub hx hb dX7_partsMeet_316 ?_
            refine zz_i (v := iI (cr (U j).toInt (V j).toInt (U (nxt m2 j)).toInt (V (nxt m2 j)).toInt (X i).toInt (Y i).toInt)) (crI (hq j hj).1 (hq j hj).2 (hq _ hnj).1 (hq _ hnj).2 (hp i hi).1 (hp i hi).2) ?_
            have hB3 := crBp (hq j hj).1 (hq j hj).2 (hq _ hnj).1 (hq _ hnj).2 (hp i hi).1 (hp i hi).2
            refine lv_istore (lv' := [(16, .int (iI (cr (U j).toInt (V j).toInt (U (nxt m2 j)).toInt (V (nxt m2 j)).toInt (X i).toInt (Y i).toInt))), (15, .int (iI (cr (X i).toInt (Y i).toInt (X (nxt n i)).toInt (Y (nxt n i)).toInt (U (nxt m2 j)).toInt (V (nxt m2 j)).toInt))), (14, .int (iI (cr (X i).toInt (Y i).toInt (X (nxt n i)).toInt (Y (nxt n i)).toInt (U j).toInt (V j).toInt))), (13, .int (V (nxt m2 j))), (12, .int (U (nxt m2 j))), (11, .int (V j)), (10, .int (U j)), (9, .int (Y (nxt n i))), (8, .int (X (nxt n i))), (7, .int (Y i)), (6, .int (X i)), (5, .int (nI (nxt m2 j))), (4, .int (nI (nxt n i))), (0, .ref r), (1, .int (nI i)), (2, .ref u), (3, .int (nI j))]) hx hb dX7_partsMeet_317 hl (by decide) rfl (fun ls hl => ?_)
            refine lv_iload hx hb dX7_partsMeet_319 (lv_at hl 4 rfl) ?_
            refine lv_iload hx hb dX7_partsMeet_321 (lv_at hl 6 rfl) ?_
            refine lv_isub hx hb dX7_partsMeet_323 ?_
            refine lv_iload hx hb dX7_partsMeet_324 (lv_at hl 7 rfl) ?_
            refine lv_iload hx hb dX7_partsMeet_326 (lv_at hl 5 rfl) ?_
            refine lv_isub hx hb dX7_partsMeet_328 ?_
            refine lv_imul hx hb dX7_partsMeet_329 ?_
            refine lv_iload hx hb dX7_partsMeet_330 (lv_at hl 3 rfl) ?_
            refine lv_iload hx hb dX7_partsMeet_332 (lv_at hl 5 rfl) ?_
            refine lv_isub hx hb dX7_partsMeet_334 ?_
            refine lv_iload hx hb dX7_partsMeet_335 (lv_at hl 8 rfl) ?_
            refine lv_iload hx hb dX7_partsMeet_337 (lv_at hl 6 rfl) ?_
            refine lv_isub hx hb dX7_partsMeet_339 ?_
            refine lv_imul hx hb dX7_partsMeet_340 ?_
            refine lv_isub hx hb dX7_partsMeet_341 ?_
            refine zz_i (v := iI (cr (U j).toInt (V j).toInt (U (nxt m2 j)).toInt (V (nxt m2 j)).toInt (X (nxt n i)).toInt (Y (nxt n i)).toInt)) (crI (hq j hj).1 (hq j hj).2 (hq _ hnj).1 (hq _ hnj).2 (hp _ hnx).1 (hp _ hnx).2) ?_
            have hB4 := crBp (hq j hj).1 (hq j hj).2 (hq _ hnj).1 (hq _ hnj).2 (hp _ hnx).1 (hp _ hnx).2
            refine lv_istore (lv' := [(17, .int (iI (cr (U j).toInt (V j).toInt (U (nxt m2 j)).toInt (V (nxt m2 j)).toInt (X (nxt n i)).toInt (Y (nxt n i)).toInt))), (16, .int (iI (cr (U j).toInt (V j).toInt (U (nxt m2 j)).toInt (V (nxt m2 j)).toInt (X i).toInt (Y i).toInt))), (15, .int (iI (cr (X i).toInt (Y i).toInt (X (nxt n i)).toInt (Y (nxt n i)).toInt (U (nxt m2 j)).toInt (V (nxt m2 j)).toInt))), (14, .int (iI (cr (X i).toInt (Y i).toInt (X (nxt n i)).toInt (Y (nxt n i)).toInt (U j).toInt (V j).toInt))), (13, .int (V (nxt m2 j))), (12, .int (U (nxt m2 j))), (11, .int (V j)), (10, .int (U j)), (9, .int (Y (nxt n i))), (8, .int (X (nxt n i))), (7, .int (Y i)), (6, .int (X i)), (5, .int (nI (nxt m2 j))), (4, .int (nI (nxt n i))), (0, .ref r), (1, .int (nI i)), (2, .ref u), (3, .int (nI j))]) hx hb dX7_partsMeet_342 hl (by decide) rfl (fun ls hl => ?_)
            refine lv_iload hx hb dX7_partsMeet_344 (lv_at hl 1 rfl) ?_
            refine lv_if_le (tgt := 354) hx hb dX7_partsMeet_346 (by decide) (fun c_6 => ?_) (fun c_6 => ?_)
            · have c_6 : (cr (U j).toInt (V j).toInt (U (nxt m2 j)).toInt (V (nxt m2 j)).toInt (X i).toInt (Y i).toInt) ≤ 0 := zc_le (iI_toInt (by omega)) (by decide) c_6
              refine lv_iload hx hb dX7_partsMeet_354 (lv_at hl 1 rfl) ?_
              refine lv_if_ge (tgt := 364) hx hb dX7_partsMeet_356 (by decide) (fun c_7 => ?_) (fun c_7 => ?_)
              · have c_7 : 0 ≤ (cr (U j).toInt (V j).toInt (U (nxt m2 j)).toInt (V (nxt m2 j)).toInt (X i).toInt (Y i).toInt) := zc_le (by decide) (iI_toInt (by omega)) c_7
                refine lv_iconst (v := 1) hx hb dX7_partsMeet_364 (by decide) ?_
                refine lv_goto (tgt := 369) hx hb dX7_partsMeet_365 (by decide) ?_
                have hP9 := hP.sub (ws' := [(oc6 r (.ref rx) (.ref ry) (nI n) rg), (oa rx cI cap X), (oa ry cI cap Y), (oc6 u (.ref ux) (.ref uy) (nI m2) rh), (oa ux cI cap2 U), (oa uy cI cap2 V)]) [0, 1, 2, 3, 4, 5] rfl
                have hD9 := hD.sub (ws' := [(oc6 r (.ref rx) (.ref ry) (nI n) rg), (oa rx cI cap X), (oa ry cI cap Y), (oc6 u (.ref ux) (.ref uy) (nI m2) rh), (oa ux cI cap2 U), (oa uy cI cap2 V)]) [0, 1, 2, 3, 4, 5] (by decide) rfl
                rw [hQ9]
                exact W.zret (ty := .boolean) (v := 1) hx hb hr (rfl) (fun t ht hW => ⟨⟨congrArg (fun z => Outcome.returned (some (Value.int z))) (show (1 : Int32) = pI (eMt n X Y i m2 U V j) from (zp_t (by unfold eMt mtC; first | exact ⟨hbx, hby, hs1, by omega⟩ | exact fun h => h.2.2.2 (by omega))).symm), by rw [ht]; exact hP9, hD9⟩, hS.F ht⟩) hS.2.2 dX7_partsMeet_369
              · have c_7 : (cr (U j).toInt (V j).toInt (U (nxt m2 j)).toInt (V (nxt m2 j)).toInt (X i).toInt (Y i).toInt) < 0 := zc_nle (by decide) (iI_toInt (by omega)) c_7
                refine lv_iload hx hb dX7_partsMeet_359 (lv_at hl 0 rfl) ?_
                refine lv_if_lt (tgt := 368) hx hb dX7_partsMeet_361 (by decide) (fun c_8 => ?_) (fun c_8 => ?_)
                · have c_8 : (cr (U j).toInt (V j).toInt (U (nxt m2 j)).toInt (V (nxt m2 j)).toInt (X (nxt n i)).toInt (Y (nxt n i)).toInt) < 0 := zc_lt (iI_toInt (by omega)) (by decide) c_8
                  refine lv_iconst (v := 0) hx hb dX7_partsMeet_368 (by decide) ?_
                  have hP9 := hP.sub (ws' := [(oc6 r (.ref rx) (.ref ry) (nI n) rg), (oa rx cI cap X), (oa ry cI cap Y), (oc6 u (.ref ux) (.ref uy) (nI m2) rh), (oa ux cI cap2 U), (oa uy cI cap2 V)]) [0, 1, 2, 3, 4, 5] rfl
                  have hD9 := hD.sub (ws' := [(oc6 r (.ref rx) (.ref ry) (nI n) rg), (oa rx cI cap X), (oa ry cI cap Y), (oc6 u (.ref ux) (.ref uy) (nI m2) rh), (oa ux cI cap2 U), (oa uy cI cap2 V)]) [0, 1, 2, 3, 4, 5] (by decide) rfl
                  rw [hQ9]
                  exact W.zret (ty := .boolean) (v := 0) hx hb hr (rfl) (fun t ht hW => ⟨⟨congrArg (fun z => Outcome.returned (some (Value.int z))) (show (0 : Int32) = pI (eMt n X Y i m2 U V j) from (zp_f (by unfold eMt mtC; first | exact ⟨hbx, hby, hs1, by omega⟩ | exact fun h => h.2.2.2 (by omega))).symm), by rw [ht]; exact hP9, hD9⟩, hS.F ht⟩) hS.2.2 dX7_partsMeet_369
                · have c_8 : 0 ≤ (cr (U j).toInt (V j).toInt (U (nxt m2 j)).toInt (V (nxt m2 j)).toInt (X (nxt n i)).toInt (Y (nxt n i)).toInt) := zc_nlt (iI_toInt (by omega)) (by decide) c_8
                  refine lv_iconst (v := 1) hx hb dX7_partsMeet_364 (by decide) ?_
                  refine lv_goto (tgt := 369) hx hb dX7_partsMeet_365 (by decide) ?_
                  have hP9 := hP.sub (ws' := [(oc6 r (.ref rx) (.ref ry) (nI n) rg), (oa rx cI cap X), (oa ry cI cap Y), (oc6 u (.ref ux) (.ref uy) (nI m2) rh), (oa ux cI cap2 U), (oa uy cI cap2 V)]) [0, 1, 2, 3, 4, 5] rfl
                  have hD9 := hD.sub (ws' := [(oc6 r (.ref rx) (.ref ry) (nI n) rg), (oa rx cI cap X), (oa ry cI cap Y), (oc6 u (.ref ux) (.ref uy) (nI m2) rh), (oa ux cI cap2 U), (oa uy cI cap2 V)]) [0, 1, 2, 3, 4, 5] (by decide) rfl
                  rw [hQ9]
                  exact W.zret (ty := .boolean) (v := 1) hx hb hr (rfl) (fun t ht hW => ⟨⟨congrArg (fun z => Outcome.returned (some (Value.int z))) (show (1 : Int32) = pI (eMt n X Y i m2 U V j) from (zp_t (by unfold eMt mtC; first | exact ⟨hbx, hby, hs1, by omega⟩ | exact fun h => h.2.2.2 (by omega))).symm), by rw [ht]; exact hP9, hD9⟩, hS.F ht⟩) hS.2.2 dX7_partsMeet_369
            · have c_6 : 0 < (cr (U j).toInt (V j).toInt (U (nxt m2 j)).toInt (V (nxt m2 j)).toInt (X i).toInt (Y i).toInt) := zc_nle (iI_toInt (by omega)) (by decide) c_6
              refine lv_iload hx hb dX7_partsMeet_349 (lv_at hl 0 rfl) ?_
              refine lv_if_gt (tgt := 368) hx hb dX7_partsMeet_351 (by decide) (fun c_9 => ?_) (fun c_9 => ?_)
              · have c_9 : 0 < (cr (U j).toInt (V j).toInt (U (nxt m2 j)).toInt (V (nxt m2 j)).toInt (X (nxt n i)).toInt (Y (nxt n i)).toInt) := zc_lt (by decide) (iI_toInt (by omega)) c_9
                refine lv_iconst (v := 0) hx hb dX7_partsMeet_368 (by decide) ?_
                have hP9 := hP.sub (ws' := [(oc6 r (.ref rx) (.ref ry) (nI n) rg), (oa rx cI cap X), (oa ry cI cap Y), (oc6 u (.ref ux) (.ref uy) (nI m2) rh), (oa ux cI cap2 U), (oa uy cI cap2 V)]) [0, 1, 2, 3, 4, 5] rfl
                have hD9 := hD.sub (ws' := [(oc6 r (.ref rx) (.ref ry) (nI n) rg), (oa rx cI cap X), (oa ry cI cap Y), (oc6 u (.ref ux) (.ref uy) (nI m2) rh), (oa ux cI cap2 U), (oa uy cI cap2 V)]) [0, 1, 2, 3, 4, 5] (by decide) rfl
                rw [hQ9]
                exact W.zret (ty := .boolean) (v := 0) hx hb hr (rfl) (fun t ht hW => ⟨⟨congrArg (fun z => Outcome.returned (some (Value.int z))) (show (0 : Int32) = pI (eMt n X Y i m2 U V j) from (zp_f (by unfold eMt mtC; first | exact ⟨hbx, hby, hs1, by omega⟩ | exact fun h => h.2.2.2 (by omega))).symm), by rw [ht]; exact hP9, hD9⟩, hS.F ht⟩) hS.2.2 dX7_partsMeet_369
              · have c_9 : (cr (U j).toInt (V j).toInt (U (nxt m2 j)).toInt (V (nxt m2 j)).toInt (X (nxt n i)).toInt (Y (nxt n i)).toInt) ≤ 0 := zc_nlt (by decide) (iI_toInt (by omega)) c_9
                refine lv_iload hx hb dX7_partsMeet_354 (lv_at hl 1 rfl) ?_
                refine lv_if_ge (tgt := 364) hx hb dX7_partsMeet_356 (by decide) (fun c_10 => ?_) (fun c_10 => ?_)
                · have c_10 : 0 ≤ (cr (U j).toInt (V j).toInt (U (nxt m2 j)).toInt (V (nxt m2 j)).toInt (X i).toInt (Y i).toInt) := zc_le (by decide) (iI_toInt (by omega)) c_10
                  refine lv_iconst (v := 1) hx hb dX7_partsMeet_364 (by decide) ?_
                  refine lv_goto (tgt := 369) hx hb dX7_partsMeet_365 (by decide) ?_
                  have hP9 := hP.sub (ws' := [(oc6 r (.ref rx) (.ref ry) (nI n) rg), (oa rx cI cap X), (oa ry cI cap Y), (oc6 u (.ref ux) (.ref uy) (nI m2) rh), (oa ux cI cap2 U), (oa uy cI cap2 V)]) [0, 1, 2, 3, 4, 5] rfl
                  have hD9 := hD.sub (ws' := [(oc6 r (.ref rx) (.ref ry) (nI n) rg), (oa rx cI cap X), (oa ry cI cap Y), (oc6 u (.ref ux) (.ref uy) (nI m2) rh), (oa ux cI cap2 U), (oa uy cI cap2 V)]) [0, 1, 2, 3, 4, 5] (by decide) rfl
                  rw [hQ9]
                  exact W.zret (ty := .boolean) (v := 1) hx hb hr (rfl) (fun t ht hW => ⟨⟨congrArg (fun z => Outcome.returned (some (Value.int z))) (show (1 : Int32) = pI (eMt n X Y i m2 U V j) from (zp_t (by unfold eMt mtC; first | exact ⟨hbx, hby, hs1, by omega⟩ | exact fun h => h.2.2.2 (by omega))).symm), by rw [ht]; exact hP9, hD9⟩, hS.F ht⟩) hS.2.2 dX7_partsMeet_369
                · have c_10 : (cr (U j).toInt (V j).toInt (U (nxt m2 j)).toInt (V (nxt m2 j)).toInt (X i).toInt (Y i).toInt) < 0 := zc_nle (by decide) (iI_toInt (by omega)) c_10
                  refine lv_iload hx hb dX7_partsMeet_359 (lv_at hl 0 rfl) ?_
                  refine lv_if_lt (tgt := 368) hx hb dX7_partsMeet_361 (by decide) (fun c_11 => ?_) (fun c_11 => ?_)
                  · have c_11 : (cr (U j).toInt (V j).toInt (U (nxt m2 j)).toInt (V (nxt m2 j)).toInt (X (nxt n i)).toInt (Y (nxt n i)).toInt) < 0 := zc_lt (iI_toInt (by omega)) (by decide) c_11
                    refine lv_iconst (v := 0) hx hb dX7_partsMeet_368 (by decide) ?_
                    have hP9 := hP.sub (ws' := [(oc6 r (.ref rx) (.ref ry) (nI n) rg), (oa rx cI cap X), (oa ry cI cap Y), (oc6 u (.ref ux) (.ref uy) (nI m2) rh), (oa ux cI cap2 U), (oa uy cI cap2 V)]) [0, 1, 2, 3, 4, 5] rfl
                    have hD9 := hD.sub (ws' := [(oc6 r (.ref rx) (.ref ry) (nI n) rg), (oa rx cI cap X), (oa ry cI cap Y), (oc6 u (.ref ux) (.ref uy) (nI m2) rh), (oa ux cI cap2 U), (oa uy cI cap2 V)]) [0, 1, 2, 3, 4, 5] (by decide) rfl
                    rw [hQ9]
                    exact W.zret (ty := .boolean) (v := 0) hx hb hr (rfl) (fun t ht hW => ⟨⟨congrArg (fun z => Outcome.returned (some (Value.int z))) (show (0 : Int32) = pI (eMt n X Y i m2 U V j) from (zp_f (by unfold eMt mtC; first | exact ⟨hbx, hby, hs1, by omega⟩ | exact fun h => h.2.2.2 (by omega))).symm), by rw [ht]; exact hP9, hD9⟩, hS.F ht⟩) hS.2.2 dX7_partsMeet_369
                  · have c_11 : 0 ≤ (cr (U j).toInt (V j).toInt (U (nxt m2 j)).toInt (V (nxt m2 j)).toInt (X (nxt n i)).toInt (Y (nxt n i)).toInt) := zc_nlt (iI_toInt (by omega)) (by decide) c_11
                    refine lv_iconst (v := 1) hx hb dX7_partsMeet_364 (by decide) ?_
                    refine lv_goto (tgt := 369) hx hb dX7_partsMeet_365 (by decide) ?_
                    have hP9 := hP.sub (ws' := [(oc6 r (.ref rx) (.ref ry) (nI n) rg), (oa rx cI cap X), (oa ry cI cap Y), (oc6 u (.ref ux) (.ref uy) (nI m2) rh), (oa ux cI cap2 U), (oa uy cI cap2 V)]) [0, 1, 2, 3, 4, 5] rfl
                    have hD9 := hD.sub (ws' := [(oc6 r (.ref rx) (.ref ry) (nI n) rg), (oa rx cI cap X), (oa ry cI cap Y), (oc6 u (.ref ux) (.ref uy) (nI m2) rh), (oa ux cI cap2 U), (oa uy cI cap2 V)]) [0, 1, 2, 3, 4, 5] (by decide) rfl
                    rw [hQ9]
                    exact W.zret (ty := .boolean) (v := 1) hx hb hr (rfl) (fun t ht hW => ⟨⟨congrArg (fun z => Outcome.returned (some (Value.int z))) (show (1 : Int32) = pI (eMt n X Y i m2 U V j) from (zp_t (by unfold eMt mtC; first | exact ⟨hbx, hby, hs1, by omega⟩ | exact fun h => h.2.2.2 (by omega))).symm), by rw [ht]; exact hP9, hD9⟩, hS.F ht⟩) hS.2.2 dX7_partsMeet_369
          refine lv_iload hx hb dX7_partsMeet_272 (lv_at hl 1 rfl) ?_
          refine lv_if_le (tgt := 282) hx hb dX7_partsMeet_274 (by decide) (fun c_12 => ?_) (fun c_12 => ?_)
          · have c_12 : (cr (X i).toInt (Y i).toInt (X (nxt n i)).toInt (Y (nxt n i)).toInt (U j).toInt (V j).toInt) ≤ 0 := zc_le (iI_toInt (by omega)) (by decide) c_12
            refine lv_iload hx hb dX7_partsMeet_282 (lv_at hl 1 rfl) ?_
            refine lv_if_ge (tgt := 294) hx hb dX7_partsMeet_284 (by decide) (fun c_13 => ?_) (fun c_13 => ?_)
            · have c_13 : 0 ≤ (cr (X i).toInt (Y i).toInt (X (nxt n i)).toInt (Y (nxt n i)).toInt (U j).toInt (V j).toInt) := zc_le (by decide) (iI_toInt (by omega)) c_13
              exact hj_5 (by omega)
            · have c_13 : (cr (X i).toInt (Y i).toInt (X (nxt n i)).toInt (Y (nxt n i)).toInt (U j).toInt (V j).toInt) < 0 := zc_nle (by decide) (iI_toInt (by omega)) c_13
              refine lv_iload hx hb dX7_partsMeet_287 (lv_at hl 0 rfl) ?_
              refine lv_if_ge (tgt := 294) hx hb dX7_partsMeet_289 (by decide) (fun c_14 => ?_) (fun c_14 => ?_)
              · have c_14 : 0 ≤ (cr (X i).toInt (Y i).toInt (X (nxt n i)).toInt (Y (nxt n i)).toInt (U (nxt m2 j)).toInt (V (nxt m2 j)).toInt) := zc_le (by decide) (iI_toInt (by omega)) c_14
                exact hj_5 (by omega)
              · have c_14 : (cr (X i).toInt (Y i).toInt (X (nxt n i)).toInt (Y (nxt n i)).toInt (U (nxt m2 j)).toInt (V (nxt m2 j)).toInt) < 0 := zc_nle (by decide) (iI_toInt (by omega)) c_14
                refine lv_iconst (v := 0) hx hb dX7_partsMeet_292 (by decide) ?_
                have hP9 := hP.sub (ws' := [(oc6 r (.ref rx) (.ref ry) (nI n) rg), (oa rx cI cap X), (oa ry cI cap Y), (oc6 u (.ref ux) (.ref uy) (nI m2) rh), (oa ux cI cap2 U), (oa uy cI cap2 V)]) [0, 1, 2, 3, 4, 5] rfl
                have hD9 := hD.sub (ws' := [(oc6 r (.ref rx) (.ref ry) (nI n) rg), (oa rx cI cap X), (oa ry cI cap Y), (oc6 u (.ref ux) (.ref uy) (nI m2) rh), (oa ux cI cap2 U), (oa uy cI cap2 V)]) [0, 1, 2, 3, 4, 5] (by decide) rfl
                rw [hQ9]
                exact W.zret (ty := .boolean) (v := 0) hx hb hr (rfl) (fun t ht hW => ⟨⟨congrArg (fun z => Outcome.returned (some (Value.int z))) (show (0 : Int32) = pI (eMt n X Y i m2 U V j) from (zp_f (by unfold eMt mtC; intro h; exact h.2.2.1 (by omega))).symm), by rw [ht]; exact hP9, hD9⟩, hS.F ht⟩) hS.2.2 dX7_partsMeet_293
          · have c_12 : 0 < (cr (X i).toInt (Y i).toInt (X (nxt n i)).toInt (Y (nxt n i)).toInt (U j).toInt (V j).toInt) := zc_nle (iI_toInt (by omega)) (by decide) c_12
            refine lv_iload hx hb dX7_partsMeet_277 (lv_at hl 0 rfl) ?_
            refine lv_if_gt (tgt := 292) hx hb dX7_partsMeet_279 (by decide) (fun c_15 => ?_) (fun c_15 => ?_)
            · have c_15 : 0 < (cr (X i).toInt (Y i).toInt (X (nxt n i)).toInt (Y (nxt n i)).toInt (U (nxt m2 j)).toInt (V (nxt m2 j)).toInt) := zc_lt (by decide) (iI_toInt (by omega)) c_15
              refine lv_iconst (v := 0) hx hb dX7_partsMeet_292 (by decide) ?_
              have hP9 := hP.sub (ws' := [(oc6 r (.ref rx) (.ref ry) (nI n) rg), (oa rx cI cap X), (oa ry cI cap Y), (oc6 u (.ref ux) (.ref uy) (nI m2) rh), (oa ux cI cap2 U), (oa uy cI cap2 V)]) [0, 1, 2, 3, 4, 5] rfl
              have hD9 := hD.sub (ws' := [(oc6 r (.ref rx) (.ref ry) (nI n) rg), (oa rx cI cap X), (oa ry cI cap Y), (oc6 u (.ref ux) (.ref uy) (nI m2) rh), (oa ux cI cap2 U), (oa uy cI cap2 V)]) [0, 1, 2, 3, 4, 5] (by decide) rfl
              rw [hQ9]
              exact W.zret (ty := .boolean) (v := 0) hx hb hr (rfl) (fun t ht hW => ⟨⟨congrArg (fun z => Outcome.returned (some (Value.int z))) (show (0 : Int32) = pI (eMt n X Y i m2 U V j) from (zp_f (by unfold eMt mtC; intro h; exact h.2.2.1 (by omega))).symm), by rw [ht]; exact hP9, hD9⟩, hS.F ht⟩) hS.2.2 dX7_partsMeet_293
            · have c_15 : (cr (X i).toInt (Y i).toInt (X (nxt n i)).toInt (Y (nxt n i)).toInt (U (nxt m2 j)).toInt (V (nxt m2 j)).toInt) ≤ 0 := zc_nlt (by decide) (iI_toInt (by omega)) c_15
              refine lv_iload hx hb dX7_partsMeet_282 (lv_at hl 1 rfl) ?_
              refine lv_if_ge (tgt := 294) hx hb dX7_partsMeet_284 (by decide) (fun c_16 => ?_) (fun c_16 => ?_)
              · have c_16 : 0 ≤ (cr (X i).toInt (Y i).toInt (X (nxt n i)).toInt (Y (nxt n i)).toInt (U j).toInt (V j).toInt) := zc_le (by decide) (iI_toInt (by omega)) c_16
                exact hj_5 (by omega)
              · have c_16 : (cr (X i).toInt (Y i).toInt (X (nxt n i)).toInt (Y (nxt n i)).toInt (U j).toInt (V j).toInt) < 0 := zc_nle (by decide) (iI_toInt (by omega)) c_16
                refine lv_iload hx hb dX7_partsMeet_287 (lv_at hl 0 rfl) ?_
                refine lv_if_ge (tgt := 294) hx hb dX7_partsMeet_289 (by decide) (fun c_17 => ?_) (fun c_17 => ?_)
                · have c_17 : 0 ≤ (cr (X i).toInt (Y i).toInt (X (nxt n i)).toInt (Y (nxt n i)).toInt (U (nxt m2 j)).toInt (V (nxt m2 j)).toInt) := zc_le (by decide) (iI_toInt (by omega)) c_17
                  exact hj_5 (by omega)
                · have c_17 : (cr (X i).toInt (Y i).toInt (X (nxt n i)).toInt (Y (nxt n i)).toInt (U (nxt m2 j)).toInt (V (nxt m2 j)).toInt) < 0 := zc_nle (by decide) (iI_toInt (by omega)) c_17
                  refine lv_iconst (v := 0) hx hb dX7_partsMeet_292 (by decide) ?_
                  have hP9 := hP.sub (ws' := [(oc6 r (.ref rx) (.ref ry) (nI n) rg), (oa rx cI cap X), (oa ry cI cap Y), (oc6 u (.ref ux) (.ref uy) (nI m2) rh), (oa ux cI cap2 U), (oa uy cI cap2 V)]) [0, 1, 2, 3, 4, 5] rfl
                  have hD9 := hD.sub (ws' := [(oc6 r (.ref rx) (.ref ry) (nI n) rg), (oa rx cI cap X), (oa ry cI cap Y), (oc6 u (.ref ux) (.ref uy) (nI m2) rh), (oa ux cI cap2 U), (oa uy cI cap2 V)]) [0, 1, 2, 3, 4, 5] (by decide) rfl
                  rw [hQ9]
                  exact W.zret (ty := .boolean) (v := 0) hx hb hr (rfl) (fun t ht hW => ⟨⟨congrArg (fun z => Outcome.returned (some (Value.int z))) (show (0 : Int32) = pI (eMt n X Y i m2 U V j) from (zp_f (by unfold eMt mtC; intro h; exact h.2.2.1 (by omega))).symm), by rw [ht]; exact hP9, hD9⟩, hS.F ht⟩) hS.2.2 dX7_partsMeet_293
        have hj_18 : (¬ ((Y i).toInt < (V j).toInt ∧ (Y (nxt n i)).toInt < (V j).toInt ∧ (Y i).toInt < (V (nxt m2 j)).toInt ∧ (Y (nxt n i)).toInt < (V (nxt m2 j)).toInt)) → W p l e ((headSpec (.code yX7_partsMeet cX7_partsMeet 18 (some .boolean) :: ws0) ({ frames := 0, cells := 0, slots := 0, locals := 0 } : Room)).room) s m ([.ref r, .int (nI i), .ref u, .int (nI j)] : List Value).toArray below meth c s.heap [] 0 0 Q9 (F0 m 192 ls []) := by
          intro hby0
          refine lv_iload hx hb dX7_partsMeet_192 (lv_at hl 6 rfl) ?_
          refine lv_iload hx hb dX7_partsMeet_194 (lv_at hl 2 rfl) ?_
          refine lv_icmp_le (tgt := 222) hx hb dX7_partsMeet_196 (by decide) (fun c_19 => ?_) (fun c_19 => ?_)
          · have c_19 : (Y i).toInt ≤ (V j).toInt := zc_le rfl rfl c_19
            exact hj_4 (by omega)
          · have c_19 : (V j).toInt < (Y i).toInt := zc_nle rfl rfl c_19
            refine lv_iload hx hb dX7_partsMeet_199 (lv_at hl 4 rfl) ?_
            refine lv_iload hx hb dX7_partsMeet_201 (lv_at hl 2 rfl) ?_
            refine lv_icmp_le (tgt := 222) hx hb dX7_partsMeet_203 (by decide) (fun c_20 => ?_) (fun c_20 => ?_)
            · have c_20 : (Y (nxt n i)).toInt ≤ (V j).toInt := zc_le rfl rfl c_20
              exact hj_4 (by omega)
            · have c_20 : (V j).toInt < (Y (nxt n i)).toInt := zc_nle rfl rfl c_20
              refine lv_iload hx hb dX7_partsMeet_206 (lv_at hl 6 rfl) ?_
              refine lv_iload hx hb dX7_partsMeet_208 (lv_at hl 0 rfl) ?_
              refine lv_icmp_le (tgt := 222) hx hb dX7_partsMeet_210 (by decide) (fun c_21 => ?_) (fun c_21 => ?_)
              · have c_21 : (Y i).toInt ≤ (V (nxt m2 j)).toInt := zc_le rfl rfl c_21
                exact hj_4 (by omega)
              · have c_21 : (V (nxt m2 j)).toInt < (Y i).toInt := zc_nle rfl rfl c_21
                refine lv_iload hx hb dX7_partsMeet_213 (lv_at hl 4 rfl) ?_
                refine lv_iload hx hb dX7_partsMeet_215 (lv_at hl 0 rfl) ?_
                refine lv_icmp_le (tgt := 222) hx hb dX7_partsMeet_217 (by decide) (fun c_22 => ?_) (fun c_22 => ?_)
                · have c_22 : (Y (nxt n i)).toInt ≤ (V (nxt m2 j)).toInt := zc_le rfl rfl c_22
                  exact hj_4 (by omega)
                · have c_22 : (V (nxt m2 j)).toInt < (Y (nxt n i)).toInt := zc_nle rfl rfl c_22
                  refine lv_iconst (v := 0) hx hb dX7_partsMeet_220 (by decide) ?_
                  have hP9 := hP.sub (ws' := [(oc6 r (.ref rx) (.ref ry) (nI n) rg), (oa rx cI cap X), (oa ry cI cap Y), (oc6 u (.ref ux) (.ref uy) (nI m2) rh), (oa ux cI cap2 U), (oa uy cI cap2 V)]) [0, 1, 2, 3, 4, 5] rfl
                  have hD9 := hD.sub (ws' := [(oc6 r (.ref rx) (.ref ry) (nI n) rg), (oa rx cI cap X), (oa ry cI cap Y), (oc6 u (.ref ux) (.ref uy) (nI m2) rh), (oa ux cI cap2 U), (oa uy cI cap2 V)]) [0, 1, 2, 3, 4, 5] (by decide) rfl
                  rw [hQ9]
                  exact W.zret (ty := .boolean) (v := 0) hx hb hr (rfl) (fun t ht hW => ⟨⟨congrArg (fun z => Outcome.returned (some (Value.int z))) (show (0 : Int32) = pI (eMt n X Y i m2 U V j) from (zp_f (by unfold eMt mtC; intro h; exact h.2.1 (by omega))).symm), by rw [ht]; exact hP9, hD9⟩, hS.F ht⟩) hS.2.2 dX7_partsMeet_221
        refine lv_iload hx hb dX7_partsMeet_164 (lv_at hl 6 rfl) ?_
        refine lv_iload hx hb dX7_partsMeet_166 (lv_at hl 2 rfl) ?_
        refine lv_icmp_ge (tgt := 192) hx hb dX7_partsMeet_168 (by decide) (fun c_23 => ?_) (fun c_23 => ?_)
        · have c_23 : (V j).toInt ≤ (Y i).toInt := zc_le rfl rfl c_23
          exact hj_18 (by omega)
        · have c_23 : (Y i).toInt < (V j).toInt := zc_nle rfl rfl c_23
          refine lv_iload hx hb dX7_partsMeet_171 (lv_at hl 4 rfl) ?_
          refine lv_iload hx hb dX7_partsMeet_173 (lv_at hl 2 rfl) ?_
          refine lv_icmp_ge (tgt := 192) hx hb dX7_partsMeet_175 (by decide) (fun c_24 => ?_) (fun c_24 => ?_)
          · have c_24 : (V j).toInt ≤ (Y (nxt n i)).toInt := zc_le rfl rfl c_24
            exact hj_18 (by omega)
          · have c_24 : (Y (nxt n i)).toInt < (V j).toInt := zc_nle rfl rfl c_24
            refine lv_iload hx hb dX7_partsMeet_178 (lv_at hl 6 rfl) ?_
            refine lv_iload hx hb dX7_partsMeet_180 (lv_at hl 0 rfl) ?_
            refine lv_icmp_ge (tgt := 192) hx hb dX7_partsMeet_182 (by decide) (fun c_25 => ?_) (fun c_25 => ?_)
            · have c_25 : (V (nxt m2 j)).toInt ≤ (Y i).toInt := zc_le rfl rfl c_25
              exact hj_18 (by omega)
            · have c_25 : (Y i).toInt < (V (nxt m2 j)).toInt := zc_nle rfl rfl c_25
              refine lv_iload hx hb dX7_partsMeet_185 (lv_at hl 4 rfl) ?_
              refine lv_iload hx hb dX7_partsMeet_187 (lv_at hl 0 rfl) ?_
              refine lv_icmp_lt (tgt := 220) hx hb dX7_partsMeet_189 (by decide) (fun c_26 => ?_) (fun c_26 => ?_)
              · have c_26 : (Y (nxt n i)).toInt < (V (nxt m2 j)).toInt := zc_lt rfl rfl c_26
                refine lv_iconst (v := 0) hx hb dX7_partsMeet_220 (by decide) ?_
                have hP9 := hP.sub (ws' := [(oc6 r (.ref rx) (.ref ry) (nI n) rg), (oa rx cI cap X), (oa ry cI cap Y), (oc6 u (.ref ux) (.ref uy) (nI m2) rh), (oa ux cI cap2 U), (oa uy cI cap2 V)]) [0, 1, 2, 3, 4, 5] rfl
                have hD9 := hD.sub (ws' := [(oc6 r (.ref rx) (.ref ry) (nI n) rg), (oa rx cI cap X), (oa ry cI cap Y), (oc6 u (.ref ux) (.ref uy) (nI m2) rh), (oa ux cI cap2 U), (oa uy cI cap2 V)]) [0, 1, 2, 3, 4, 5] (by decide) rfl
                rw [hQ9]
                exact W.zret (ty := .boolean) (v := 0) hx hb hr (rfl) (fun t ht hW => ⟨⟨congrArg (fun z => Outcome.returned (some (Value.int z))) (show (0 : Int32) = pI (eMt n X Y i m2 U V j) from (zp_f (by unfold eMt mtC; intro h; exact h.2.1 (by omega))).symm), by rw [ht]; exact hP9, hD9⟩, hS.F ht⟩) hS.2.2 dX7_partsMeet_221
              · have c_26 : (V (nxt m2 j)).toInt ≤ (Y (nxt n i)).toInt := zc_nlt rfl rfl c_26
                exact hj_18 (by omega)
      have hj_27 : (¬ ((X i).toInt < (U j).toInt ∧ (X (nxt n i)).toInt < (U j).toInt ∧ (X i).toInt < (U (nxt m2 j)).toInt ∧ (X (nxt n i)).toInt < (U (nxt m2 j)).toInt)) → W p l e ((headSpec (.code yX7_partsMeet cX7_partsMeet 18 (some .boolean) :: ws0) ({ frames := 0, cells := 0, slots := 0, locals := 0 } : Room)).room) s m ([.ref r, .int (nI i), .ref u, .int (nI j)] : List Value).toArray below meth c s.heap [] 0 0 Q9 (F0 m 134 ls []) := by
        intro hbx0
        refine lv_iload hx hb dX7_partsMeet_134 (lv_at hl 7 rfl) ?_
        refine lv_iload hx hb dX7_partsMeet_136 (lv_at hl 3 rfl) ?_
        refine lv_icmp_le (tgt := 164) hx hb dX7_partsMeet_138 (by decide) (fun c_28 => ?_) (fun c_28 => ?_)
        · have c_28 : (X i).toInt ≤ (U j).toInt := zc_le rfl rfl c_28
          exact hj_3 (by omega)
        · have c_28 : (U j).toInt < (X i).toInt := zc_nle rfl rfl c_28
          refine lv_iload hx hb dX7_partsMeet_141 (lv_at hl 5 rfl) ?_
          refine lv_iload hx hb dX7_partsMeet_143 (lv_at hl 3 rfl) ?_
          refine lv_icmp_le (tgt := 164) hx hb dX7_partsMeet_145 (by decide) (fun c_29 => ?_) (fun c_29 => ?_)
          · have c_29 : (X (nxt n i)).toInt ≤ (U j).toInt := zc_le rfl rfl c_29
            exact hj_3 (by omega)
          · have c_29 : (U j).toInt < (X (nxt n i)).toInt := zc_nle rfl rfl c_29
            refine lv_iload hx hb dX7_partsMeet_148 (lv_at hl 7 rfl) ?_
            refine lv_iload hx hb dX7_partsMeet_150 (lv_at hl 1 rfl) ?_
            refine lv_icmp_le (tgt := 164) hx hb dX7_partsMeet_152 (by decide) (fun c_30 => ?_) (fun c_30 => ?_)
            · have c_30 : (X i).toInt ≤ (U (nxt m2 j)).toInt := zc_le rfl rfl c_30
              exact hj_3 (by omega)
            · have c_30 : (U (nxt m2 j)).toInt < (X i).toInt := zc_nle rfl rfl c_30
              refine lv_iload hx hb dX7_partsMeet_155 (lv_at hl 5 rfl) ?_
              refine lv_iload hx hb dX7_partsMeet_157 (lv_at hl 1 rfl) ?_
              refine lv_icmp_le (tgt := 164) hx hb dX7_partsMeet_159 (by decide) (fun c_31 => ?_) (fun c_31 => ?_)
              · have c_31 : (X (nxt n i)).toInt ≤ (U (nxt m2 j)).toInt := zc_le rfl rfl c_31
                exact hj_3 (by omega)
              · have c_31 : (U (nxt m2 j)).toInt < (X (nxt n i)).toInt := zc_nle rfl rfl c_31
                refine lv_iconst (v := 0) hx hb dX7_partsMeet_162 (by decide) ?_
                have hP9 := hP.sub (ws' := [(oc6 r (.ref rx) (.ref ry) (nI n) rg), (oa rx cI cap X), (oa ry cI cap Y), (oc6 u (.ref ux) (.ref uy) (nI m2) rh), (oa ux cI cap2 U), (oa uy cI cap2 V)]) [0, 1, 2, 3, 4, 5] rfl
                have hD9 := hD.sub (ws' := [(oc6 r (.ref rx) (.ref ry) (nI n) rg), (oa rx cI cap X), (oa ry cI cap Y), (oc6 u (.ref ux) (.ref uy) (nI m2) rh), (oa ux cI cap2 U), (oa uy cI cap2 V)]) [0, 1, 2, 3, 4, 5] (by decide) rfl
                rw [hQ9]
                exact W.zret (ty := .boolean) (v := 0) hx hb hr (rfl) (fun t ht hW => ⟨⟨congrArg (fun z => Outcome.returned (some (Value.int z))) (show (0 : Int32) = pI (eMt n X Y i m2 U V j) from (zp_f (by unfold eMt mtC; intro h; exact h.1 (by omega))).symm), by rw [ht]; exact hP9, hD9⟩, hS.F ht⟩) hS.2.2 dX7_partsMeet_163
      refine lv_iload hx hb dX7_partsMeet_106 (lv_at hl 7 rfl) ?_
      refine lv_iload hx hb dX7_partsMeet_108 (lv_at hl 3 rfl) ?_
      refine lv_icmp_ge (tgt := 134) hx hb dX7_partsMeet_110 (by decide) (fun c_32 => ?_) (fun c_32 => ?_)
      · have c_32 : (U j).toInt ≤ (X i).toInt := zc_le rfl rfl c_32
        exact hj_27 (by omega)
      · have c_32 : (X i).toInt < (U j).toInt := zc_nle rfl rfl c_32
        refine lv_iload hx hb dX7_partsMeet_113 (lv_at hl 5 rfl) ?_
        refine lv_iload hx hb dX7_partsMeet_115 (lv_at hl 3 rfl) ?_
        refine lv_icmp_ge (tgt := 134) hx hb dX7_partsMeet_117 (by decide) (fun c_33 => ?_) (fun c_33 => ?_)
        · have c_33 : (U j).toInt ≤ (X (nxt n i)).toInt := zc_le rfl rfl c_33
          exact hj_27 (by omega)
        · have c_33 : (X (nxt n i)).toInt < (U j).toInt := zc_nle rfl rfl c_33
          refine lv_iload hx hb dX7_partsMeet_120 (lv_at hl 7 rfl) ?_
          refine lv_iload hx hb dX7_partsMeet_122 (lv_at hl 1 rfl) ?_
          refine lv_icmp_ge (tgt := 134) hx hb dX7_partsMeet_124 (by decide) (fun c_34 => ?_) (fun c_34 => ?_)
          · have c_34 : (U (nxt m2 j)).toInt ≤ (X i).toInt := zc_le rfl rfl c_34
            exact hj_27 (by omega)
          · have c_34 : (X i).toInt < (U (nxt m2 j)).toInt := zc_nle rfl rfl c_34
            refine lv_iload hx hb dX7_partsMeet_127 (lv_at hl 5 rfl) ?_
            refine lv_iload hx hb dX7_partsMeet_129 (lv_at hl 1 rfl) ?_
            refine lv_icmp_lt (tgt := 162) hx hb dX7_partsMeet_131 (by decide) (fun c_35 => ?_) (fun c_35 => ?_)
            · have c_35 : (X (nxt n i)).toInt < (U (nxt m2 j)).toInt := zc_lt rfl rfl c_35
              refine lv_iconst (v := 0) hx hb dX7_partsMeet_162 (by decide) ?_
              have hP9 := hP.sub (ws' := [(oc6 r (.ref rx) (.ref ry) (nI n) rg), (oa rx cI cap X), (oa ry cI cap Y), (oc6 u (.ref ux) (.ref uy) (nI m2) rh), (oa ux cI cap2 U), (oa uy cI cap2 V)]) [0, 1, 2, 3, 4, 5] rfl
              have hD9 := hD.sub (ws' := [(oc6 r (.ref rx) (.ref ry) (nI n) rg), (oa rx cI cap X), (oa ry cI cap Y), (oc6 u (.ref ux) (.ref uy) (nI m2) rh), (oa ux cI cap2 U), (oa uy cI cap2 V)]) [0, 1, 2, 3, 4, 5] (by decide) rfl
              rw [hQ9]
              exact W.zret (ty := .boolean) (v := 0) hx hb hr (rfl) (fun t ht hW => ⟨⟨congrArg (fun z => Outcome.returned (some (Value.int z))) (show (0 : Int32) = pI (eMt n X Y i m2 U V j) from (zp_f (by unfold eMt mtC; intro h; exact h.1 (by omega))).symm), by rw [ht]; exact hP9, hD9⟩, hS.F ht⟩) hS.2.2 dX7_partsMeet_163
            · have c_35 : (U (nxt m2 j)).toInt ≤ (X (nxt n i)).toInt := zc_nlt rfl rfl c_35
              exact hj_27 (by omega)
    refine lv_icmp_ge (tgt := 35) hx hb dX7_partsMeet_26 (by decide) (fun c_36 => ?_) (fun c_36 => ?_)
    · have c_36 : ((m2 : Nat) : Int) ≤ ((j + 1 : Nat) : Int) := zc_le (nI_toInt (by omega)) (nI_toInt (by omega)) c_36
      refine lv_iconst (v := 0) hx hb dX7_partsMeet_35 (by decide) ?_
      refine zz_i (v := nI (nxt m2 j)) (by first | (rw [nxt, if_pos (by omega)]) | (rw [nxt, if_neg (by omega)]; first | done | rfl)) ?_
      exact hj_2 
    · have c_36 : ((j + 1 : Nat) : Int) < ((m2 : Nat) : Int) := zc_nle (nI_toInt (by omega)) (nI_toInt (by omega)) c_36
      refine lv_iload_n hx hb dX7_partsMeet_29 rfl (lv_at hl 4 rfl) ?_
      refine lv_iconst (v := 1) hx hb dX7_partsMeet_30 (by decide) ?_
      refine lv_iadd hx hb dX7_partsMeet_31 ?_
      refine zz_i (v := nI (j + 1)) (nI_add j 1) ?_
      refine lv_goto (tgt := 36) hx hb dX7_partsMeet_32 (by decide) ?_
      refine zz_i (v := nI (nxt m2 j)) (by first | (rw [nxt, if_pos (by omega)]) | (rw [nxt, if_neg (by omega)]; first | done | rfl)) ?_
      exact hj_2 
  refine lv_icmp_ge (tgt := 16) hx hb dX7_partsMeet_7 (by decide) (fun c_37 => ?_) (fun c_37 => ?_)
  · have c_37 : ((n : Nat) : Int) ≤ ((i + 1 : Nat) : Int) := zc_le (nI_toInt (by omega)) (nI_toInt (by omega)) c_37
    refine lv_iconst (v := 0) hx hb dX7_partsMeet_16 (by decide) ?_
    refine zz_i (v := nI (nxt n i)) (by first | (rw [nxt, if_pos (by omega)]) | (rw [nxt, if_neg (by omega)]; first | done | rfl)) ?_
    exact hj_1 
  · have c_37 : ((i + 1 : Nat) : Int) < ((n : Nat) : Int) := zc_nle (nI_toInt (by omega)) (nI_toInt (by omega)) c_37
    refine lv_iload_n hx hb dX7_partsMeet_10 rfl (lv_at hl 1 rfl) ?_
    refine lv_iconst (v := 1) hx hb dX7_partsMeet_11 (by decide) ?_
    refine lv_iadd hx hb dX7_partsMeet_12 ?_
    refine zz_i (v := nI (i + 1)) (nI_add i 1) ?_
    refine lv_goto (tgt := 17) hx hb dX7_partsMeet_13 (by decide) ?_
    refine zz_i (v := nI (nxt n i)) (by first | (rw [nxt, if_pos (by omega)]) | (rw [nxt, if_neg (by omega)]; first | done | rfl)) ?_
    exact hj_1 
set_option maxHeartbeats 4000000 in
set_option maxRecDepth 100000 in
theorem k_Row_partsMeet_self (l : Launch) (dC : Nat → ClassId) (dI : Nat → Nat → Nat) (cI cZ cF : ClassId) (sz : Nat) (r : Nat) (rx : Nat) (ry : Nat) (n : Nat) (cap : Nat) (X : Nat → Int32) (Y : Nat → Int32) (rg : Int32) (i : Nat) (j : Nat) (hn : n ≤ cap) (hcap : cap ≤ 1000) (hp : pls n X Y) (hi : i < n) (hj : j < n) : Met l yX7_partsMeet (.code yX7_partsMeet cX7_partsMeet 18 (some .boolean) :: ws0) ({ frames := 0, cells := 0, slots := 0, locals := 0 } : Room) (va_Pc [.ref r, .int (nI i), .ref r, .int (nI j)] (zPre (dC, dI) classes (zTy cI cZ cF) [(oc6 r (.ref rx) (.ref ry) (nI n) rg), (oa rx cI cap X), (oa ry cI cap Y)] sz zXN)) (zQ (some (.int (pI (eMt n X Y i n X Y j)))) (fun t => va_P (dC, dI) classes [(oc6 r (.ref rx) (.ref ry) (nI n) rg), (oa rx cI cap X), (oa ry cI cap Y)] t.heap ∧ va_D (va_A [(oc6 r (.ref rx) (.ref ry) (nI n) rg), (oa rx cI cap X), (oa ry cI cap Y)] sz) [(oc6 r (.ref rx) (.ref ry) (nI n) rg), (oa rx cI cap X), (oa ry cI cap Y)]) (va_A [(oc6 r (.ref rx) (.ref ry) (nI n) rg), (oa rx cI cap X), (oa ry cI cap Y)] sz)) 0 0 (va_A [(oc6 r (.ref rx) (.ref ry) (nI n) rg), (oa rx cI cap X), (oa ry cI cap Y)] sz) := by
  refine Met.ofW (cc := cX7_partsMeet) (maxL := 18) (ret := (some .boolean)) (by decide) rfl ?_
  intro p e s m args below meth c s₁ B hml hv
  obtain ⟨rfl, hsz, hP, hK, hD0, hXN⟩ := hv
  have hx := B.exec
  have hb := B.bytes
  have hr := B.returns
  have hts0 := atoms_spec (ws := .code yX7_partsMeet cX7_partsMeet 18 (some .boolean) :: ws0) B.pre
  have hts : ∀ w9 ∈ ws0, w9.before ([.ref r, .int (nI i), .ref r, .int (nI j)] : List Value).toArray s = true := fun w9 h => hts0 w9 (List.mem_cons_of_mem _ h)
  have hown : s.vm.findClass "ScaleShop$Row" = some m.cls := findClass_of_methodNamed B.named
  have hlocks := B.notSynchronized
  subst hsz
  have hD := hD0.self (sz := s.heap.size)
  clear hD0
  generalize hAe : va_A [(oc6 r (.ref rx) (.ref ry) (nI n) rg), (oa rx cI cap X), (oa ry cI cap Y)] s.heap.size = A at hD ⊢
  have hA : ∀ q : Nat, s.heap.size ≤ q → A q := fun q h => by rw [← hAe]; exact Or.inr h
  clear hAe
  have hS : va_S A s.heap s.heap [] := va_S.rf
  have hP : va_P (dC, dI) classes [(oc6 r (.ref rx) (.ref ry) (nI n) rg), (oa rx cI cap X), (oa ry cI cap Y)] s.heap := hP
  obtain ⟨Q9, hQ9⟩ : ∃ Q9 : State → Prop, Q9 = MQ below (zQ (some (.int (pI (eMt n X Y i n X Y j)))) (fun t => va_P (dC, dI) classes [(oc6 r (.ref rx) (.ref ry) (nI n) rg), (oa rx cI cap X), (oa ry cI cap Y)] t.heap ∧ va_D A [(oc6 r (.ref rx) (.ref ry) (nI n) rg), (oa rx cI cap X), (oa ry cI cap Y)]) A) ([.ref r, .int (nI i), .ref r, .int (nI j)] : List Value).toArray s 0 0 A := ⟨_, rfl⟩
  rw [← hQ9]
  have hl := lv_entry ([.ref r, .int (nI i), .ref r, .int (nI j)]) (n := 18) (Nat.le_of_ble_eq_true rfl)
  rw [lg_entry_eq]
  generalize (lg_sl ([.ref r, .int (nI i), .ref r, .int (nI j)]) ++ List.replicate (18 - (lg_sl ([.ref r, .int (nI i), .ref r, .int (nI j)])).length) Slot.unset).toArray = ls at hl ⊢
  have hl : lv_has ls 18 [(0, .ref r), (1, .int (nI i)), (2, .ref r), (3, .int (nI j))] := hl
  refine lv_iload_n hx hb dX7_partsMeet_0 rfl (lv_at hl 1 rfl) ?_
  refine lv_iconst (v := 1) hx hb dX7_partsMeet_1 (by decide) ?_
  refine lv_iadd hx hb dX7_partsMeet_2 ?_
  refine zz_i (v := nI (i + 1)) (nI_add i 1) ?_
  refine lv_aload_n hx hb dX7_partsMeet_3 rfl (lv_at hl 0 rfl) ?_
  refine va_get (D := (dC, dI)) (ci := 6) (v := .int (nI n)) (C := RX7) (T := TX7) (N := 4) hx hb hts inX7 hown hK hP 0 rfl rfl 2 (by decide) (hts _ mw_175) (fun _ h9 => h9) rfl dX7_partsMeet_4 ?_
  have hj_1 : W p l e ((headSpec (.code yX7_partsMeet cX7_partsMeet 18 (some .boolean) :: ws0) ({ frames := 0, cells := 0, slots := 0, locals := 0 } : Room)).room) s m ([.ref r, .int (nI i), .ref r, .int (nI j)] : List Value).toArray below meth c s.heap [] 0 0 Q9 (F0 m 17 ls [.int (nI (nxt n i))]) := by
    have hnx := nxt_lt (n := n) (i := i) (by omega)
    refine lv_istore (lv' := [(4, .int (nI (nxt n i))), (0, .ref r), (1, .int (nI i)), (2, .ref r), (3, .int (nI j))]) hx hb dX7_partsMeet_17 hl (by decide) rfl (fun ls hl => ?_)
    refine lv_iload_n hx hb dX7_partsMeet_19 rfl (lv_at hl 4 rfl) ?_
    refine lv_iconst (v := 1) hx hb dX7_partsMeet_20 (by decide) ?_
    refine lv_iadd hx hb dX7_partsMeet_21 ?_
    refine zz_i (v := nI (j + 1)) (nI_add j 1) ?_
    refine lv_aload_n hx hb dX7_partsMeet_22 rfl (lv_at hl 3 rfl) ?_
    refine va_get (D := (dC, dI)) (ci := 6) (v := .int (nI n)) (C := RX7) (T := TX7) (N := 4) hx hb hts inX7 hown hK hP 0 rfl rfl 2 (by decide) (hts _ mw_175) (fun _ h9 => h9) rfl dX7_partsMeet_23 ?_
    have hj_2 : W p l e ((headSpec (.code yX7_partsMeet cX7_partsMeet 18 (some .boolean) :: ws0) ({ frames := 0, cells := 0, slots := 0, locals := 0 } : Room)).room) s m ([.ref r, .int (nI i), .ref r, .int (nI j)] : List Value).toArray below meth c s.heap [] 0 0 Q9 (F0 m 36 ls [.int (nI (nxt n j))]) := by
      have hnj := nxt_lt (n := n) (i := j) (by omega)
      refine lv_istore (lv' := [(5, .int (nI (nxt n j))), (4, .int (nI (nxt n i))), (0, .ref r), (1, .int (nI i)), (2, .ref r), (3, .int (nI j))]) hx hb dX7_partsMeet_36 hl (by decide) rfl (fun ls hl => ?_)
      refine lv_aload_n hx hb dX7_partsMeet_38 rfl (lv_at hl 2 rfl) ?_
      refine va_get (D := (dC, dI)) (ci := 6) (v := .ref rx) (C := RX7) (T := TX7) (N := 4) hx hb hts inX7 hown hK hP 0 rfl rfl 0 (by decide) (hts _ mw_161) (fun _ h9 => h9) rfl dX7_partsMeet_39 ?_
      refine lv_iload_n hx hb dX7_partsMeet_42 rfl (lv_at hl 3 rfl) ?_
      refine z_iald hx hb hK hP 1 0 rfl rfl (e := i) rfl (by omega) (by omega) dX7_partsMeet_43 ?_
      refine lv_istore (lv' := [(6, .int (X i)), (5, .int (nI (nxt n j))), (4, .int (nI (nxt n i))), (0, .ref r), (1, .int (nI i)), (2, .ref r), (3, .int (nI j))]) hx hb dX7_partsMeet_44 hl (by decide) rfl (fun ls hl => ?_)
      refine lv_aload_n hx hb dX7_partsMeet_46 rfl (lv_at hl 3 rfl) ?_
      refine va_get (D := (dC, dI)) (ci := 6) (v := .ref ry) (C := RX7) (T := TX7) (N := 4) hx hb hts inX7 hown hK hP 0 rfl rfl 1 (by decide) (hts _ mw_168) (fun _ h9 => h9) rfl dX7_partsMeet_47 ?_
      refine lv_iload_n hx hb dX7_partsMeet_50 rfl (lv_at hl 4 rfl) ?_
      refine z_iald hx hb hK hP 2 0 rfl rfl (e := i) rfl (by omega) (by omega) dX7_partsMeet_51 ?_
      refine lv_istore (lv' := [(7, .int (Y i)), (6, .int (X i)), (5, .int (nI (nxt n j))), (4, .int (nI (nxt n i))), (0, .ref r), (1, .int (nI i)), (2, .ref r), (3, .int (nI j))]) hx hb dX7_partsMeet_52 hl (by decide) rfl (fun ls hl => ?_)
      refine lv_aload_n hx hb dX7_partsMeet_54 rfl (lv_at hl 4 rfl) ?_
      refine va_get (D := (dC, dI)) (ci := 6) (v := .ref rx) (C := RX7) (T := TX7) (N := 4) hx hb hts inX7 hown hK hP 0 rfl rfl 0 (by decide) (hts _ mw_161) (fun _ h9 => h9) rfl dX7_partsMeet_55 ?_
      refine lv_iload hx hb dX7_partsMeet_58 (lv_at hl 3 rfl) ?_
      refine z_iald hx hb hK hP 1 0 rfl rfl (e := nxt n i) rfl (by omega) (by omega) dX7_partsMeet_60 ?_
      refine lv_istore (lv' := [(8, .int (X (nxt n i))), (7, .int (Y i)), (6, .int (X i)), (5, .int (nI (nxt n j))), (4, .int (nI (nxt n i))), (0, .ref r), (1, .int (nI i)), (2, .ref r), (3, .int (nI j))]) hx hb dX7_partsMeet_61 hl (by decide) rfl (fun ls hl => ?_)
      refine lv_aload_n hx hb dX7_partsMeet_63 rfl (lv_at hl 5 rfl) ?_
      refine va_get (D := (dC, dI)) (ci := 6) (v := .ref ry) (C := RX7) (T := TX7) (N := 4) hx hb hts inX7 hown hK hP 0 rfl rfl 1 (by decide) (hts _ mw_168) (fun _ h9 => h9) rfl dX7_partsMeet_64 ?_
      refine lv_iload hx hb dX7_partsMeet_67 (lv_at hl 4 rfl) ?_
      refine z_iald hx hb hK hP 2 0 rfl rfl (e := nxt n i) rfl (by omega) (by omega) dX7_partsMeet_69 ?_
      refine lv_istore (lv' := [(9, .int (Y (nxt n i))), (8, .int (X (nxt n i))), (7, .int (Y i)), (6, .int (X i)), (5, .int (nI (nxt n j))), (4, .int (nI (nxt n i))), (0, .ref r), (1, .int (nI i)), (2, .ref r), (3, .int (nI j))]) hx hb dX7_partsMeet_70 hl (by decide) rfl (fun ls hl => ?_)
      refine lv_aload_n hx hb dX7_partsMeet_72 rfl (lv_at hl 8 rfl) ?_
      refine va_get (D := (dC, dI)) (ci := 6) (v := .ref rx) (C := RX7) (T := TX7) (N := 4) hx hb hts inX7 hown hK hP 0 rfl rfl 0 (by decide) (hts _ mw_161) (fun _ h9 => h9) rfl dX7_partsMeet_73 ?_
      refine lv_iload_n hx hb dX7_partsMeet_76 rfl (lv_at hl 9 rfl) ?_
      refine z_iald hx hb hK hP 1 0 rfl rfl (e := j) rfl (by omega) (by omega) dX7_partsMeet_77 ?_
      refine lv_istore (lv' := [(10, .int (X j)), (9, .int (Y (nxt n i))), (8, .int (X (nxt n i))), (7, .int (Y i)), (6, .int (X i)), (5, .int (nI (nxt n j))), (4, .int (nI (nxt n i))), (0, .ref r), (1, .int (nI i)), (2, .ref r), (3, .int (nI j))]) hx hb dX7_partsMeet_78 hl (by decide) rfl (fun ls hl => ?_)
      refine lv_aload_n hx hb dX7_partsMeet_80 rfl (lv_at hl 9 rfl) ?_
      refine va_get (D := (dC, dI)) (ci := 6) (v := .ref ry) (C := RX7) (T := TX7) (N := 4) hx hb hts inX7 hown hK hP 0 rfl rfl 1 (by decide) (hts _ mw_168) (fun _ h9 => h9) rfl dX7_partsMeet_81 ?_
      refine lv_iload_n hx hb dX7_partsMeet_84 rfl (lv_at hl 10 rfl) ?_
      refine z_iald hx hb hK hP 2 0 rfl rfl (e := j) rfl (by omega) (by omega) dX7_partsMeet_85 ?_
      refine lv_istore (lv' := [(11, .int (Y j)), (10, .int (X j)), (9, .int (Y (nxt n i))), (8, .int (X (nxt n i))), (7, .int (Y i)), (6, .int (X i)), (5, .int (nI (nxt n j))), (4, .int (nI (nxt n i))), (0, .ref r), (1, .int (nI i)), (2, .ref r), (3, .int (nI j))]) hx hb dX7_partsMeet_86 hl (by decide) rfl (fun ls hl => ?_)
      refine lv_aload_n hx hb dX7_partsMeet_88 rfl (lv_at hl 10 rfl) ?_
      refine va_get (D := (dC, dI)) (ci := 6) (v := .ref rx) (C := RX7) (T := TX7) (N := 4) hx hb hts inX7 hown hK hP 0 rfl rfl 0 (by decide) (hts _ mw_161) (fun _ h9 => h9) rfl dX7_partsMeet_89 ?_
      refine lv_iload hx hb dX7_partsMeet_92 (lv_at hl 6 rfl) ?_
      refine z_iald hx hb hK hP 1 0 rfl rfl (e := nxt n j) rfl (by omega) (by omega) dX7_partsMeet_94 ?_
      refine lv_istore (lv' := [(12, .int (X (nxt n j))), (11, .int (Y j)), (10, .int (X j)), (9, .int (Y (nxt n i))), (8, .int (X (nxt n i))), (7, .int (Y i)), (6, .int (X i)), (5, .int (nI (nxt n j))), (4, .int (nI (nxt n i))), (0, .ref r), (1, .int (nI i)), (2, .ref r), (3, .int (nI j))]) hx hb dX7_partsMeet_95 hl (by decide) rfl (fun ls hl => ?_)
      refine lv_aload_n hx hb dX7_partsMeet_97 rfl (lv_at hl 11 rfl) ?_
      refine va_get (D := (dC, dI)) (ci := 6) (v := .ref ry) (C := RX7) (T := TX7) (N := 4) hx hb hts inX7 hown hK hP 0 rfl rfl 1 (by decide) (hts _ mw_168) (fun _ h9 => h9) rfl dX7_partsMeet_98 ?_
      refine lv_iload hx hb dX7_partsMeet_101 (lv_at hl 7 rfl) ?_
      refine z_iald hx hb hK hP 2 0 rfl rfl (e := nxt n j) rfl (by omega) (by omega) dX7_partsMeet_103 ?_
      refine lv_istore (lv' := [(13, .int (Y (nxt n j))), (12, .int (X (nxt n j))), (11, .int (Y j)), (10, .int (X j)), (9, .int (Y (nxt n i))), (8, .int (X (nxt n i))), (7, .int (Y i)), (6, .int (X i)), (5, .int (nI (nxt n j))), (4, .int (nI (nxt n i))), (0, .ref r), (1, .int (nI i)), (2, .ref r), (3, .int (nI j))]) hx hb dX7_partsMeet_104 hl (by decide) rfl (fun ls hl => ?_)
      have hj_3 : (¬ (((X i).toInt < (X j).toInt ∧ (X (nxt n i)).toInt < (X j).toInt ∧ (X i).toInt < (X (nxt n j)).toInt ∧ (X (nxt n i)).toInt < (X (nxt n j)).toInt) ∨ ((X j).toInt < (X i).toInt ∧ (X j).toInt < (X (nxt n i)).toInt ∧ (X (nxt n j)).toInt < (X i).toInt ∧ (X (nxt n j)).toInt < (X (nxt n i)).toInt))) → W p l e ((headSpec (.code yX7_partsMeet cX7_partsMeet 18 (some .boolean) :: ws0) ({ frames := 0, cells := 0, slots := 0, locals := 0 } : Room)).room) s m ([.ref r, .int (nI i), .ref r, .int (nI j)] : List Value).toArray below meth c s.heap [] 0 0 Q9 (F0 m 164 ls []) := by
        intro hbx
        have hj_4 : (¬ (((Y i).toInt < (Y j).toInt ∧ (Y (nxt n i)).toInt < (Y j).toInt ∧ (Y i).toInt < (Y (nxt n j)).toInt ∧ (Y (nxt n i)).toInt < (Y (nxt n j)).toInt) ∨ ((Y j).toInt < (Y i).toInt ∧ (Y j).toInt < (Y (nxt n i)).toInt ∧ (Y (nxt n j)).toInt < (Y i).toInt ∧ (Y (nxt n j)).toInt < (Y (nxt n i)).toInt))) → W p l e ((headSpec (.code yX7_partsMeet cX7_partsMeet 18 (some .boolean) :: ws0) ({ frames := 0, cells := 0, slots := 0, locals := 0 } : Room)).room) s m ([.ref r, .int (nI i), .ref r, .int (nI j)] : List Value).toArray below meth c s.heap [] 0 0 Q9 (F0 m 222 ls []) := by
          intro hby
          refine lv_iload hx hb dX7_partsMeet_222 (lv_at hl 5 rfl) ?_
          refine lv_iload hx hb dX7_partsMeet_224 (lv_at hl 7 rfl) ?_
          refine lv_isub hx hb dX7_partsMeet_226 ?_
          refine lv_iload hx hb dX7_partsMeet_227 (lv_at hl 2 rfl) ?_
          refine lv_iload hx hb dX7_partsMeet_229 (lv_at hl 6 rfl) ?_
          refine lv_isub hx hb dX7_partsMeet_231 ?_
          refine lv_imul hx hb dX7_partsMeet_232 ?_
          refine lv_iload hx hb dX7_partsMeet_233 (lv_at hl 4 rfl) ?_
          refine lv_iload hx hb dX7_partsMeet_235 (lv_at hl 6 rfl) ?_
          refine lv_isub hx hb dX7_partsMeet_237 ?_
          refine lv_iload hx hb dX7_partsMeet_238 (lv_at hl 3 rfl) ?_
          refine lv_iload hx hb dX7_partsMeet_240 (lv_at hl 7 rfl) ?_
          refine lv_isub hx hb dX7_partsMeet_242 ?_
          refine lv_imul hx hb dX7_partsMeet_243 ?_
          refine lv_isub hx hb dX7_partsMeet_244 ?_
          refine zz_i (v := iI (cr (X i).toInt (Y i).toInt (X (nxt n i)).toInt (Y (nxt n i)).toInt (X j).toInt (Y j).toInt)) (crI (hp i hi).1 (hp i hi).2 (hp _ hnx).1 (hp _ hnx).2 (hp j hj).1 (hp j hj).2) ?_
          have hB1 := crBp (hp i hi).1 (hp i hi).2 (hp _ hnx).1 (hp _ hnx).2 (hp j hj).1 (hp j hj).2
          refine lv_istore (lv' := [(14, .int (iI (cr (X i).toInt (Y i).toInt (X (nxt n i)).toInt (Y (nxt n i)).toInt (X j).toInt (Y j).toInt))), (13, .int (Y (nxt n j))), (12, .int (X (nxt n j))), (11, .int (Y j)), (10, .int (X j)), (9, .int (Y (nxt n i))), (8, .int (X (nxt n i))), (7, .int (Y i)), (6, .int (X i)), (5, .int (nI (nxt n j))), (4, .int (nI (nxt n i))), (0, .ref r), (1, .int (nI i)), (2, .ref r), (3, .int (nI j))]) hx hb dX7_partsMeet_245 hl (by decide) rfl (fun ls hl => ?_)
          refine lv_iload hx hb dX7_partsMeet_247 (lv_at hl 6 rfl) ?_
          refine lv_iload hx hb dX7_partsMeet_249 (lv_at hl 8 rfl) ?_
          refine lv_isub hx hb dX7_partsMeet_251 ?_
          refine lv_iload hx hb dX7_partsMeet_252 (lv_at hl 1 rfl) ?_
          refine lv_iload hx hb dX7_partsMeet_254 (lv_at hl 7 rfl) ?_
          refine lv_isub hx hb dX7_partsMeet_256 ?_
          refine lv_imul hx hb dX7_partsMeet_257 ?_
          refine lv_iload hx hb dX7_partsMeet_258 (lv_at hl 5 rfl) ?_
          refine lv_iload hx hb dX7_partsMeet_260 (lv_at hl 7 rfl) ?_
          refine lv_isub hx hb dX7_partsMeet_262 ?_
          refine lv_iload hx hb dX7_partsMeet_263 (lv_at hl 2 rfl) ?_
          refine lv_iload hx hb dX7_partsMeet_265 (lv_at hl 8 rfl) ?_
          refine lv_isub hx hb dX7_partsMeet_267 ?_
          refine lv_imul hx hb dX7_partsMeet_268 ?_
          refine lv_isub hx hb dX7_partsMeet_269 ?_
          refine zz_i (v := iI (cr (X i).toInt (Y i).toInt (X (nxt n i)).toInt (Y (nxt n i)).toInt (X (nxt n j)).toInt (Y (nxt n j)).toInt)) (crI (hp i hi).1 (hp i hi).2 (hp _ hnx).1 (hp _ hnx).2 (hp _ hnj).1 (hp _ hnj).2) ?_
          have hB2 := crBp (hp i hi).1 (hp i hi).2 (hp _ hnx).1 (hp _ hnx).2 (hp _ hnj).1 (hp _ hnj).2
          refine lv_istore (lv' := [(15, .int (iI (cr (X i).toInt (Y i).toInt (X (nxt n i)).toInt (Y (nxt n i)).toInt (X (nxt n j)).toInt (Y (nxt n j)).toInt))), (14, .int (iI (cr (X i).toInt (Y i).toInt (X (nxt n i)).toInt (Y (nxt n i)).toInt (X j).toInt (Y j).toInt))), (13, .int (Y (nxt n j))), (12, .int (X (nxt n j))), (11, .int (Y j)), (10, .int (X j)), (9, .int (Y (nxt n i))), (8, .int (X (nxt n i))), (7, .int (Y i)), (6, .int (X i)), (5, .int (nI (nxt n j))), (4, .int (nI (nxt n i))), (0, .ref r), (1, .int (nI i)), (2, .ref r), (3, .int (nI j))]) hx hb dX7_partsMeet_270 hl (by decide) rfl (fun ls hl => ?_)
          have hj_5 : (¬ ((0 < cr (X i).toInt (Y i).toInt (X (nxt n i)).toInt (Y (nxt n i)).toInt (X j).toInt (Y j).toInt ∧ 0 < cr (X i).toInt (Y i).toInt (X (nxt n i)).toInt (Y (nxt n i)).toInt (X (nxt n j)).toInt (Y (nxt n j)).toInt) ∨ (cr (X i).toInt (Y i).toInt (X (nxt n i)).toInt (Y (nxt n i)).toInt (X j).toInt (Y j).toInt < 0 ∧ cr (X i).toInt (Y i).toInt (X (nxt n i)).toInt (Y (nxt n i)).toInt (X (nxt n j)).toInt (Y (nxt n j)).toInt < 0))) → W p l e ((headSpec (.code yX7_partsMeet cX7_partsMeet 18 (some .boolean) :: ws0) ({ frames := 0, cells := 0, slots := 0, locals := 0 } : Room)).room) s m ([.ref r, .int (nI i), .ref r, .int (nI j)] : List Value).toArray below meth c s.heap [] 0 0 Q9 (F0 m 294 ls []) := by
            intro hs1
            refine lv_iload hx hb dX7_partsMeet_294 (lv_at hl 3 rfl) ?_
            refine lv_iload hx hb dX7_partsMeet_296 (lv_at hl 5 rfl) ?_
            refine lv_isub hx hb dX7_partsMeet_298 ?_
            refine lv_iload hx hb dX7_partsMeet_299 (lv_at hl 8 rfl) ?_
            refine lv_iload hx hb dX7_partsMeet_301 (lv_at hl 4 rfl) ?_
            refine lv_isub hx hb dX7_partsMeet_303 ?_
            refine lv_imul hx hb dX7_partsMeet_304 ?_
            refine lv_iload hx hb dX7_partsMeet_305 (lv_at hl 2 rfl) ?_
            refine lv_iload hx hb dX7_partsMeet_307 (lv_at hl 4 rfl) ?_
            refine lv_isub hx hb dX7_partsMeet_309 ?_
            refine lv_iload hx hb dX7_partsMeet_310 (lv_at hl 9 rfl) ?_
            refine lv_iload hx hb dX7_partsMeet_312 (lv_at hl 5 rfl) ?_
            refine lv_isub hx hb dX7_partsMeet_314 ?_
            refine lv_imul hx hb dX7_partsMeet_315 ?_
            refine lv_isub hx hb dX7_partsMeet_316 ?_
            refine zz_i (v := iI (cr (X j).toInt (Y j).toInt (X (nxt n j)).toInt (Y (nxt n j)).toInt (X i).toInt (Y i).toInt)) (crI (hp j hj).1 (hp j hj).2 (hp _ hnj).1 (hp _ hnj).2 (hp i hi).1 (hp i hi).2) ?_
            have hB3 := crBp (hp j hj).1 (hp j hj).2 (hp _ hnj).1 (hp _ hnj).2 (hp i hi).1 (hp i hi).2
            refine lv_istore (lv' := [(16, .int (iI (cr (X j).toInt (Y j).toInt (X (nxt n j)).toInt (Y (nxt n j)).toInt (X i).toInt (Y i).toInt))), (15, .int (iI (cr (X i).toInt (Y i).toInt (X (nxt n i)).toInt (Y (nxt n i)).toInt (X (nxt n j)).toInt (Y (nxt n j)).toInt))), (14, .int (iI (cr (X i).toInt (Y i).toInt (X (nxt n i)).toInt (Y (nxt n i)).toInt (X j).toInt (Y j).toInt))), (13, .int (Y (nxt n j))), (12, .int (X (nxt n j))), (11, .int (Y j)), (10, .int (X j)), (9, .int (Y (nxt n i))), (8, .int (X (nxt n i))), (7, .int (Y i)), (6, .int (X i)), (5, .int (nI (nxt n j))), (4, .int (nI (nxt n i))), (0, .ref r), (1, .int (nI i)), (2, .ref r), (3, .int (nI j))]) hx hb dX7_partsMeet_317 hl (by decide) rfl (fun ls hl => ?_)
            refine lv_iload hx hb dX7_partsMeet_319 (lv_at hl 4 rfl) ?_
            refine lv_iload hx hb dX7_partsMeet_321 (lv_at hl 6 rfl) ?_
            refine lv_isub hx hb dX7_partsMeet_323 ?_
            refine lv_iload hx hb dX7_partsMeet_324 (lv_at hl 7 rfl) ?_
            refine lv_iload hx hb dX7_partsMeet_326 (lv_at hl 5 rfl) ?_
            refine lv_isub hx hb dX7_partsMeet_328 ?_
            refine lv_imul hx hb dX7_partsMeet_329 ?_
            refine lv_iload hx hb dX7_partsMeet_330 (lv_at hl 3 rfl) ?_
            refine lv_iload hx hb dX7_partsMeet_332 (lv_at hl 5 rfl) ?_
            refine lv_isub hx hb dX7_partsMeet_334 ?_
            refine lv_iload hx hb dX7_partsMeet_335 (lv_at hl 8 rfl) ?_
            refine lv_iload hx hb dX7_partsMeet_337 (lv_at hl 6 rfl) ?_
            refine lv_isub hx hb dX7_partsMeet_339 ?_
            refine lv_imul hx hb dX7_partsMeet_340 ?_
            refine lv_isub hx hb dX7_partsMeet_341 ?_
            refine zz_i (v := iI (cr (X j).toInt (Y j).toInt (X (nxt n j)).toInt (Y (nxt n j)).toInt (X (nxt n i)).toInt (Y (nxt n i)).toInt)) (crI (hp j hj).1 (hp j hj).2 (hp _ hnj).1 (hp _ hnj).2 (hp _ hnx).1 (hp _ hnx).2) ?_
            have hB4 := crBp (hp j hj).1 (hp j hj).2 (hp _ hnj).1 (hp _ hnj).2 (hp _ hnx).1 (hp _ hnx).2
            refine lv_istore (lv' := [(17, .int (iI (cr (X j).toInt (Y j).toInt (X (nxt n j)).toInt (Y (nxt n j)).toInt (X (nxt n i)).toInt (Y (nxt n i)).toInt))), (16, .int (iI (cr (X j).toInt (Y j).toInt (X (nxt n j)).toInt (Y (nxt n j)).toInt (X i).toInt (Y i).toInt))), (15, .int (iI (cr (X i).toInt (Y i).toInt (X (nxt n i)).toInt (Y (nxt n i)).toInt (X (nxt n j)).toInt (Y (nxt n j)).toInt))), (14, .int (iI (cr (X i).toInt (Y i).toInt (X (nxt n i)).toInt (Y (nxt n i)).toInt (X j).toInt (Y j).toInt))), (13, .int (Y (nxt n j))), (12, .int (X (nxt n j))), (11, .int (Y j)), (10, .int (X j)), (9, .int (Y (nxt n i))), (8, .int (X (nxt n i))), (7, .int (Y i)), (6, .int (X i)), (5, .int (nI (nxt n j))), (4, .int (nI (nxt n i))), (0, .ref r), (1, .int (nI i)), (2, .ref r), (3, .int (nI j))]) hx hb dX7_partsMeet_342 hl (by decide) rfl (fun ls hl => ?_)
            refine lv_iload hx hb dX7_partsMeet_344 (lv_at hl 1 rfl) ?_
            refine lv_if_le (tgt := 354) hx hb dX7_partsMeet_346 (by decide) (fun c_6 => ?_) (fun c_6 => ?_)
            · have c_6 : (cr (X j).toInt (Y j).toInt (X (nxt n j)).toInt (Y (nxt n j)).toInt (X i).toInt (Y i).toInt) ≤ 0 := zc_le (iI_toInt (by omega)) (by decide) c_6
              refine lv_iload hx hb dX7_partsMeet_354 (lv_at hl 1 rfl) ?_
              refine lv_if_ge (tgt := 364) hx hb dX7_partsMeet_356 (by decide) (fun c_7 => ?_) (fun c_7 => ?_)
              · have c_7 : 0 ≤ (cr (X j).toInt (Y j).toInt (X (nxt n j)).toInt (Y (nxt n j)).toInt (X i).toInt (Y i).toInt) := zc_le (by decide) (iI_toInt (by omega)) c_7
                refine lv_iconst (v := 1) hx hb dX7_partsMeet_364 (by decide) ?_
                refine lv_goto (tgt := 369) hx hb dX7_partsMeet_365 (by decide) ?_
                have hP9 := hP.sub (ws' := [(oc6 r (.ref rx) (.ref ry) (nI n) rg), (oa rx cI cap X), (oa ry cI cap Y)]) [0, 1, 2] rfl
                have hD9 := hD.sub (ws' := [(oc6 r (.ref rx) (.ref ry) (nI n) rg), (oa rx cI cap X), (oa ry cI cap Y)]) [0, 1, 2] (by decide) rfl
                rw [hQ9]
                exact W.zret (ty := .boolean) (v := 1) hx hb hr (rfl) (fun t ht hW => ⟨⟨congrArg (fun z => Outcome.returned (some (Value.int z))) (show (1 : Int32) = pI (eMt n X Y i n X Y j) from (zp_t (by unfold eMt mtC; first | exact ⟨hbx, hby, hs1, by omega⟩ | exact fun h => h.2.2.2 (by omega))).symm), by rw [ht]; exact hP9, hD9⟩, hS.F ht⟩) hS.2.2 dX7_partsMeet_369
              · have c_7 : (cr (X j).toInt (Y j).toInt (X (nxt n j)).toInt (Y (nxt n j)).toInt (X i).toInt (Y i).toInt) < 0 := zc_nle (by decide) (iI_toInt (by omega)) c_7
                refine lv_iload hx hb dX7_partsMeet_359 (lv_at hl 0 rfl) ?_
                refine lv_if_lt (tgt := 368) hx hb dX7_partsMeet_361 (by decide) (fun c_8 => ?_) (fun c_8 => ?_)
                · have c_8 : (cr (X j).toInt (Y j).toInt (X (nxt n j)).toInt (Y (nxt n j)).toInt (X (nxt n i)).toInt (Y (nxt n i)).toInt) < 0 := zc_lt (iI_toInt (by omega)) (by decide) c_8
                  refine lv_iconst (v := 0) hx hb dX7_partsMeet_368 (by decide) ?_
                  have hP9 := hP.sub (ws' := [(oc6 r (.ref rx) (.ref ry) (nI n) rg), (oa rx cI cap X), (oa ry cI cap Y)]) [0, 1, 2] rfl
                  have hD9 := hD.sub (ws' := [(oc6 r (.ref rx) (.ref ry) (nI n) rg), (oa rx cI cap X), (oa ry cI cap Y)]) [0, 1, 2] (by decide) rfl
                  rw [hQ9]
                  exact W.zret (ty := .boolean) (v := 0) hx hb hr (rfl) (fun t ht hW => ⟨⟨congrArg (fun z => Outcome.returned (some (Value.int z))) (show (0 : Int32) = pI (eMt n X Y i n X Y j) from (zp_f (by unfold eMt mtC; first | exact ⟨hbx, hby, hs1, by omega⟩ | exact fun h => h.2.2.2 (by omega))).symm), by rw [ht]; exact hP9, hD9⟩, hS.F ht⟩) hS.2.2 dX7_partsMeet_369
                · have c_8 : 0 ≤ (cr (X j).toInt (Y j).toInt (X (nxt n j)).toInt (Y (nxt n j)).toInt (X (nxt n i)).toInt (Y (nxt n i)).toInt) := zc_nlt (iI_toInt (by omega)) (by decide) c_8
                  refine lv_iconst (v := 1) hx hb dX7_partsMeet_364 (by decide) ?_
                  refine lv_goto (tgt := 369) hx hb dX7_partsMeet_365 (by decide) ?_
                  have hP9 := hP.sub (ws' := [(oc6 r (.ref rx) (.ref ry) (nI n) rg), (oa rx cI cap X), (oa ry cI cap Y)]) [0, 1, 2] rfl
                  have hD9 := hD.sub (ws' := [(oc6 r (.ref rx) (.ref ry) (nI n) rg), (oa rx cI cap X), (oa ry cI cap Y)]) [0, 1, 2] (by decide) rfl
                  rw [hQ9]
                  exact W.zret (ty := .boolean) (v := 1) hx hb hr (rfl) (fun t ht hW => ⟨⟨congrArg (fun z => Outcome.returned (some (Value.int z))) (show (1 : Int32) = pI (eMt n X Y i n X Y j) from (zp_t (by unfold eMt mtC; first | exact ⟨hbx, hby, hs1, by omega⟩ | exact fun h => h.2.2.2 (by omega))).symm), by rw [ht]; exact hP9, hD9⟩, hS.F ht⟩) hS.2.2 dX7_partsMeet_369
            · have c_6 : 0 < (cr (X j).toInt (Y j).toInt (X (nxt n j)).toInt (Y (nxt n j)).toInt (X i).toInt (Y i).toInt) := zc_nle (iI_toInt (by omega)) (by decide) c_6
              refine lv_iload hx hb dX7_partsMeet_349 (lv_at hl 0 rfl) ?_
              refine lv_if_gt (tgt := 368) hx hb dX7_partsMeet_351 (by decide) (fun c_9 => ?_) (fun c_9 => ?_)
              · have c_9 : 0 < (cr (X j).toInt (Y j).toInt (X (nxt n j)).toInt (Y (nxt n j)).toInt (X (nxt n i)).toInt (Y (nxt n i)).toInt) := zc_lt (by decide) (iI_toInt (by omega)) c_9
                refine lv_iconst (v := 0) hx hb dX7_partsMeet_368 (by decide) ?_
                have hP9 := hP.sub (ws' := [(oc6 r (.ref rx) (.ref ry) (nI n) rg), (oa rx cI cap X), (oa ry cI cap Y)]) [0, 1, 2] rfl
                have hD9 := hD.sub (ws' := [(oc6 r (.ref rx) (.ref ry) (nI n) rg), (oa rx cI cap X), (oa ry cI cap Y)]) [0, 1, 2] (by decide) rfl
                rw [hQ9]
                exact W.zret (ty := .boolean) (v := 0) hx hb hr (rfl) (fun t ht hW => ⟨⟨congrArg (fun z => Outcome.returned (some (Value.int z))) (show (0 : Int32) = pI (eMt n X Y i n X Y j) from (zp_f (by unfold eMt mtC; first | exact ⟨hbx, hby, hs1, by omega⟩ | exact fun h => h.2.2.2 (by omega))).symm), by rw [ht]; exact hP9, hD9⟩, hS.F ht⟩) hS.2.2 dX7_partsMeet_369
              · have c_9 : (cr (X j).toInt (Y j).toInt (X (nxt n j)).toInt (Y (nxt n j)).toInt (X (nxt n i)).toInt (Y (nxt n i)).toInt) ≤ 0 := zc_nlt (by decide) (iI_toInt (by omega)) c_9
                refine lv_iload hx hb dX7_partsMeet_354 (lv_at hl 1 rfl) ?_
                refine lv_if_ge (tgt := 364) hx hb dX7_partsMeet_356 (by decide) (fun c_10 => ?_) (fun c_10 => ?_)
                · have c_10 : 0 ≤ (cr (X j).toInt (Y j).toInt (X (nxt n j)).toInt (Y (nxt n j)).toInt (X i).toInt (Y i).toInt) := zc_le (by decide) (iI_toInt (by omega)) c_10
                  refine lv_iconst (v := 1) hx hb dX7_partsMeet_364 (by decide) ?_
                  refine lv_goto (tgt := 369) hx hb dX7_partsMeet_365 (by decide) ?_
                  have hP9 := hP.sub (ws' := [(oc6 r (.ref rx) (.ref ry) (nI n) rg), (oa rx cI cap X), (oa ry cI cap Y)]) [0, 1, 2] rfl
                  have hD9 := hD.sub (ws' := [(oc6 r (.ref rx) (.ref ry) (nI n) rg), (oa rx cI cap X), (oa ry cI cap Y)]) [0, 1, 2] (by decide) rfl
                  rw [hQ9]
                  exact W.zret (ty := .boolean) (v := 1) hx hb hr (rfl) (fun t ht hW => ⟨⟨congrArg (fun z => Outcome.returned (some (Value.int z))) (show (1 : Int32) = pI (eMt n X Y i n X Y j) from (zp_t (by unfold eMt mtC; first | exact ⟨hbx, hby, hs1, by omega⟩ | exact fun h => h.2.2.2 (by omega))).symm), by rw [ht]; exact hP9, hD9⟩, hS.F ht⟩) hS.2.2 dX7_partsMeet_369
                · have c_10 : (cr (X j).toInt (Y j).toInt (X (nxt n j)).toInt (Y (nxt n j)).toInt (X i).toInt (Y i).toInt) < 0 := zc_nle (by decide) (iI_toInt (by omega)) c_10
                  refine lv_iload hx hb dX7_partsMeet_359 (lv_at hl 0 rfl) ?_
                  refine lv_if_lt (tgt := 368) hx hb dX7_partsMeet_361 (by decide) (fun c_11 => ?_) (fun c_11 => ?_)
                  · have c_11 : (cr (X j).toInt (Y j).toInt (X (nxt n j)).toInt (Y (nxt n j)).toInt (X (nxt n i)).toInt (Y (nxt n i)).toInt) < 0 := zc_lt (iI_toInt (by omega)) (by decide) c_11
                    refine lv_iconst (v := 0) hx hb dX7_partsMeet_368 (by decide) ?_
                    have hP9 := hP.sub (ws' := [(oc6 r (.ref rx) (.ref ry) (nI n) rg), (oa rx cI cap X), (oa ry cI cap Y)]) [0, 1, 2] rfl
                    have hD9 := hD.sub (ws' := [(oc6 r (.ref rx) (.ref ry) (nI n) rg), (oa rx cI cap X), (oa ry cI cap Y)]) [0, 1, 2] (by decide) rfl
                    rw [hQ9]
                    exact W.zret (ty := .boolean) (v := 0) hx hb hr (rfl) (fun t ht hW => ⟨⟨congrArg (fun z => Outcome.returned (some (Value.int z))) (show (0 : Int32) = pI (eMt n X Y i n X Y j) from (zp_f (by unfold eMt mtC; first | exact ⟨hbx, hby, hs1, by omega⟩ | exact fun h => h.2.2.2 (by omega))).symm), by rw [ht]; exact hP9, hD9⟩, hS.F ht⟩) hS.2.2 dX7_partsMeet_369
                  · have c_11 : 0 ≤ (cr (X j).toInt (Y j).toInt (X (nxt n j)).toInt (Y (nxt n j)).toInt (X (nxt n i)).toInt (Y (nxt n i)).toInt) := zc_nlt (iI_toInt (by omega)) (by decide) c_11
                    refine lv_iconst (v := 1) hx hb dX7_partsMeet_364 (by decide) ?_
                    refine lv_goto (tgt := 369) hx hb dX7_partsMeet_365 (by decide) ?_
                    have hP9 := hP.sub (ws' := [(oc6 r (.ref rx) (.ref ry) (nI n) rg), (oa rx cI cap X), (oa ry cI cap Y)]) [0, 1, 2] rfl
                    have hD9 := hD.sub (ws' := [(oc6 r (.ref rx) (.ref ry) (nI n) rg), (oa rx cI cap X), (oa ry cI cap Y)]) [0, 1, 2] (by decide) rfl
                    rw [hQ9]
                    exact W.zret (ty := .boolean) (v := 1) hx hb hr (rfl) (fun t ht hW => ⟨⟨congrArg (fun z => Outcome.returned (some (Value.int z))) (show (1 : Int32) = pI (eMt n X Y i n X Y j) from (zp_t (by unfold eMt mtC; first | exact ⟨hbx, hby, hs1, by omega⟩ | exact fun h => h.2.2.2 (by omega))).symm), by rw [ht]; exact hP9, hD9⟩, hS.F ht⟩) hS.2.2 dX7_partsMeet_369
          refine lv_iload hx hb dX7_partsMeet_272 (lv_at hl 1 rfl) ?_
          refine lv_if_le (tgt := 282) hx hb dX7_partsMeet_274 (by decide) (fun c_12 => ?_) (fun c_12 => ?_)
          · have c_12 : (cr (X i).toInt (Y i).toInt (X (nxt n i)).toInt (Y (nxt n i)).toInt (X j).toInt (Y j).toInt) ≤ 0 := zc_le (iI_toInt (by omega)) (by decide) c_12
            refine lv_iload hx hb dX7_partsMeet_282 (lv_at hl 1 rfl) ?_
            refine lv_if_ge (tgt := 294) hx hb dX7_partsMeet_284 (by decide) (fun c_13 => ?_) (fun c_13 => ?_)
            · have c_13 : 0 ≤ (cr (X i).toInt (Y i).toInt (X (nxt n i)).toInt (Y (nxt n i)).toInt (X j).toInt (Y j).toInt) := zc_le (by decide) (iI_toInt (by omega)) c_13
              exact hj_5 (by omega)
            · have c_13 : (cr (X i).toInt (Y i).toInt (X (nxt n i)).toInt (Y (nxt n i)).toInt (X j).toInt (Y j).toInt) < 0 := zc_nle (by decide) (iI_toInt (by omega)) c_13
              refine lv_iload hx hb dX7_partsMeet_287 (lv_at hl 0 rfl) ?_
              refine lv_if_ge (tgt := 294) hx hb dX7_partsMeet_289 (by decide) (fun c_14 => ?_) (fun c_14 => ?_)
              · have c_14 : 0 ≤ (cr (X i).toInt (Y i).toInt (X (nxt n i)).toInt (Y (nxt n i)).toInt (X (nxt n j)).toInt (Y (nxt n j)).toInt) := zc_le (by decide) (iI_toInt (by omega)) c_14
                exact hj_5 (by omega)
              · have c_14 : (cr (X i).toInt (Y i).toInt (X (nxt n i)).toInt (Y (nxt n i)).toInt (X (nxt n j)).toInt (Y (nxt n j)).toInt) < 0 := zc_nle (by decide) (iI_toInt (by omega)) c_14
                refine lv_iconst (v := 0) hx hb dX7_partsMeet_292 (by decide) ?_
                have hP9 := hP.sub (ws' := [(oc6 r (.ref rx) (.ref ry) (nI n) rg), (oa rx cI cap X), (oa ry cI cap Y)]) [0, 1, 2] rfl
                have hD9 := hD.sub (ws' := [(oc6 r (.ref rx) (.ref ry) (nI n) rg), (oa rx cI cap X), (oa ry cI cap Y)]) [0, 1, 2] (by decide) rfl
                rw [hQ9]
                exact W.zret (ty := .boolean) (v := 0) hx hb hr (rfl) (fun t ht hW => ⟨⟨congrArg (fun z => Outcome.returned (some (Value.int z))) (show (0 : Int32) = pI (eMt n X Y i n X Y j) from (zp_f (by unfold eMt mtC; intro h; exact h.2.2.1 (by omega))).symm), by rw [ht]; exact hP9, hD9⟩, hS.F ht⟩) hS.2.2 dX7_partsMeet_293
          · have c_12 : 0 < (cr (X i).toInt (Y i).toInt (X (nxt n i)).toInt (Y (nxt n i)).toInt (X j).toInt (Y j).toInt) := zc_nle (iI_toInt (by omega)) (by decide) c_12
            refine lv_iload hx hb dX7_partsMeet_277 (lv_at hl 0 rfl) ?_
            refine lv_if_gt (tgt := 292) hx hb dX7_partsMeet_279 (by decide) (fun c_15 => ?_) (fun c_15 => ?_)
            · have c_15 : 0 < (cr (X i).toInt (Y i).toInt (X (nxt n i)).toInt (Y (nxt n i)).toInt (X (nxt n j)).toInt (Y (nxt n j)).toInt) := zc_lt (by decide) (iI_toInt (by omega)) c_15
              refine lv_iconst (v := 0) hx hb dX7_partsMeet_292 (by decide) ?_
              have hP9 := hP.sub (ws' := [(oc6 r (.ref rx) (.ref ry) (nI n) rg), (oa rx cI cap X), (oa ry cI cap Y)]) [0, 1, 2] rfl
              have hD9 := hD.sub (ws' := [(oc6 r (.ref rx) (.ref ry) (nI n) rg), (oa rx cI cap X), (oa ry cI cap Y)]) [0, 1, 2] (by decide) rfl
              rw [hQ9]
              exact W.zret (ty := .boolean) (v := 0) hx hb hr (rfl) (fun t ht hW => ⟨⟨congrArg (fun z => Outcome.returned (some (Value.int z))) (show (0 : Int32) = pI (eMt n X Y i n X Y j) from (zp_f (by unfold eMt mtC; intro h; exact h.2.2.1 (by omega))).symm), by rw [ht]; exact hP9, hD9⟩, hS.F ht⟩) hS.2.2 dX7_partsMeet_293
            · have c_15 : (cr (X i).toInt (Y i).toInt (X (nxt n i)).toInt (Y (nxt n i)).toInt (X (nxt n j)).toInt (Y (nxt n j)).toInt) ≤ 0 := zc_nlt (by decide) (iI_toInt (by omega)) c_15
              refine lv_iload hx hb dX7_partsMeet_282 (lv_at hl 1 rfl) ?_
              refine lv_if_ge (tgt := 294) hx hb dX7_partsMeet_284 (by decide) (fun c_16 => ?_) (fun c_16 => ?_)
              · have c_16 : 0 ≤ (cr (X i).toInt (Y i).toInt (X (nxt n i)).toInt (Y (nxt n i)).toInt (X j).toInt (Y j).toInt) := zc_le (by decide) (iI_toInt (by omega)) c_16
                exact hj_5 (by omega)
              · have c_16 : (cr (X i).toInt (Y i).toInt (X (nxt n i)).toInt (Y (nxt n i)).toInt (X j).toInt (Y j).toInt) < 0 := zc_nle (by decide) (iI_toInt (by omega)) c_16
                refine lv_iload hx hb dX7_partsMeet_287 (lv_at hl 0 rfl) ?_
                refine lv_if_ge (tgt := 294) hx hb dX7_partsMeet_289 (by decide) (fun c_17 => ?_) (fun c_17 => ?_)
                · have c_17 : 0 ≤ (cr (X i).toInt (Y i).toInt (X (nxt n i)).toInt (Y (nxt n i)).toInt (X (nxt n j)).toInt (Y (nxt n j)).toInt) := zc_le (by decide) (iI_toInt (by omega)) c_17
                  exact hj_5 (by omega)
                · have c_17 : (cr (X i).toInt (Y i).toInt (X (nxt n i)).toInt (Y (nxt n i)).toInt (X (nxt n j)).toInt (Y (nxt n j)).toInt) < 0 := zc_nle (by decide) (iI_toInt (by omega)) c_17
                  refine lv_iconst (v := 0) hx hb dX7_partsMeet_292 (by decide) ?_
                  have hP9 := hP.sub (ws' := [(oc6 r (.ref rx) (.ref ry) (nI n) rg), (oa rx cI cap X), (oa ry cI cap Y)]) [0, 1, 2] rfl
                  have hD9 := hD.sub (ws' := [(oc6 r (.ref rx) (.ref ry) (nI n) rg), (oa rx cI cap X), (oa ry cI cap Y)]) [0, 1, 2] (by decide) rfl
                  rw [hQ9]
                  exact W.zret (ty := .boolean) (v := 0) hx hb hr (rfl) (fun t ht hW => ⟨⟨congrArg (fun z => Outcome.returned (some (Value.int z))) (show (0 : Int32) = pI (eMt n X Y i n X Y j) from (zp_f (by unfold eMt mtC; intro h; exact h.2.2.1 (by omega))).symm), by rw [ht]; exact hP9, hD9⟩, hS.F ht⟩) hS.2.2 dX7_partsMeet_293
        have hj_18 : (¬ ((Y i).toInt < (Y j).toInt ∧ (Y (nxt n i)).toInt < (Y j).toInt ∧ (Y i).toInt < (Y (nxt n j)).toInt ∧ (Y (nxt n i)).toInt < (Y (nxt n j)).toInt)) → W p l e ((headSpec (.code yX7_partsMeet cX7_partsMeet 18 (some .boolean) :: ws0) ({ frames := 0, cells := 0, slots := 0, locals := 0 } : Room)).room) s m ([.ref r, .int (nI i), .ref r, .int (nI j)] : List Value).toArray below meth c s.heap [] 0 0 Q9 (F0 m 192 ls []) := by
          intro hby0
          refine lv_iload hx hb dX7_partsMeet_192 (lv_at hl 6 rfl) ?_
          refine lv_iload hx hb dX7_partsMeet_194 (lv_at hl 2 rfl) ?_
          refine lv_icmp_le (tgt := 222) hx hb dX7_partsMeet_196 (by decide) (fun c_19 => ?_) (fun c_19 => ?_)
          · have c_19 : (Y i).toInt ≤ (Y j).toInt := zc_le rfl rfl c_19
            exact hj_4 (by omega)
          · have c_19 : (Y j).toInt < (Y i).toInt := zc_nle rfl rfl c_19
            refine lv_iload hx hb dX7_partsMeet_199 (lv_at hl 4 rfl) ?_
            refine lv_iload hx hb dX7_partsMeet_201 (lv_at hl 2 rfl) ?_
            refine lv_icmp_le (tgt := 222) hx hb dX7_partsMeet_203 (by decide) (fun c_20 => ?_) (fun c_20 => ?_)
            · have c_20 : (Y (nxt n i)).toInt ≤ (Y j).toInt := zc_le rfl rfl c_20
              exact hj_4 (by omega)
            · have c_20 : (Y j).toInt < (Y (nxt n i)).toInt := zc_nle rfl rfl c_20
              refine lv_iload hx hb dX7_partsMeet_206 (lv_at hl 6 rfl) ?_
              refine lv_iload hx hb dX7_partsMeet_208 (lv_at hl 0 rfl) ?_
              refine lv_icmp_le (tgt := 222) hx hb dX7_partsMeet_210 (by decide) (fun c_21 => ?_) (fun c_21 => ?_)
              · have c_21 : (Y i).toInt ≤ (Y (nxt n j)).toInt := zc_le rfl rfl c_21
                exact hj_4 (by omega)
              · have c_21 : (Y (nxt n j)).toInt < (Y i).toInt := zc_nle rfl rfl c_21
                refine lv_iload hx hb dX7_partsMeet_213 (lv_at hl 4 rfl) ?_
                refine lv_iload hx hb dX7_partsMeet_215 (lv_at hl 0 rfl) ?_
                refine lv_icmp_le (tgt := 222) hx hb dX7_partsMeet_217 (by decide) (fun c_22 => ?_) (fun c_22 => ?_)
                · have c_22 : (Y (nxt n i)).toInt ≤ (Y (nxt n j)).toInt := zc_le rfl rfl c_22
                  exact hj_4 (by omega)
                · have c_22 : (Y (nxt n j)).toInt < (Y (nxt n i)).toInt := zc_nle rfl rfl c_22
                  refine lv_iconst (v := 0) hx hb dX7_partsMeet_220 (by decide) ?_
                  have hP9 := hP.sub (ws' := [(oc6 r (.ref rx) (.ref ry) (nI n) rg), (oa rx cI cap X), (oa ry cI cap Y)]) [0, 1, 2] rfl
                  have hD9 := hD.sub (ws' := [(oc6 r (.ref rx) (.ref ry) (nI n) rg), (oa rx cI cap X), (oa ry cI cap Y)]) [0, 1, 2] (by decide) rfl
                  rw [hQ9]
                  exact W.zret (ty := .boolean) (v := 0) hx hb hr (rfl) (fun t ht hW => ⟨⟨congrArg (fun z => Outcome.returned (some (Value.int z))) (show (0 : Int32) = pI (eMt n X Y i n X Y j) from (zp_f (by unfold eMt mtC; intro h; exact h.2.1 (by omega))).symm), by rw [ht]; exact hP9, hD9⟩, hS.F ht⟩) hS.2.2 dX7_partsMeet_221
        refine lv_iload hx hb dX7_partsMeet_164 (lv_at hl 6 rfl) ?_
        refine lv_iload hx hb dX7_partsMeet_166 (lv_at hl 2 rfl) ?_
        refine lv_icmp_ge (tgt := 192) hx hb dX7_partsMeet_168 (by decide) (fun c_23 => ?_) (fun c_23 => ?_)
        · have c_23 : (Y j).toInt ≤ (Y i).toInt := zc_le rfl rfl c_23
          exact hj_18 (by omega)
        · have c_23 : (Y i).toInt < (Y j).toInt := zc_nle rfl rfl c_23
          refine lv_iload hx hb dX7_partsMeet_171 (lv_at hl 4 rfl) ?_
          refine lv_iload hx hb dX7_partsMeet_173 (lv_at hl 2 rfl) ?_
          refine lv_icmp_ge (tgt := 192) hx hb dX7_partsMeet_175 (by decide) (fun c_24 => ?_) (fun c_24 => ?_)
          · have c_24 : (Y j).toInt ≤ (Y (nxt n i)).toInt := zc_le rfl rfl c_24
            exact hj_18 (by omega)
          · have c_24 : (Y (nxt n i)).toInt < (Y j).toInt := zc_nle rfl rfl c_24
            refine lv_iload hx hb dX7_partsMeet_178 (lv_at hl 6 rfl) ?_
            refine lv_iload hx hb dX7_partsMeet_180 (lv_at hl 0 rfl) ?_
            refine lv_icmp_ge (tgt := 192) hx hb dX7_partsMeet_182 (by decide) (fun c_25 => ?_) (fun c_25 => ?_)
            · have c_25 : (Y (nxt n j)).toInt ≤ (Y i).toInt := zc_le rfl rfl c_25
              exact hj_18 (by omega)
            · have c_25 : (Y i).toInt < (Y (nxt n j)).toInt := zc_nle rfl rfl c_25
              refine lv_iload hx hb dX7_partsMeet_185 (lv_at hl 4 rfl) ?_
              refine lv_iload hx hb dX7_partsMeet_187 (lv_at hl 0 rfl) ?_
              refine lv_icmp_lt (tgt := 220) hx hb dX7_partsMeet_189 (by decide) (fun c_26 => ?_) (fun c_26 => ?_)
              · have c_26 : (Y (nxt n i)).toInt < (Y (nxt n j)).toInt := zc_lt rfl rfl c_26
                refine lv_iconst (v := 0) hx hb dX7_partsMeet_220 (by decide) ?_
                have hP9 := hP.sub (ws' := [(oc6 r (.ref rx) (.ref ry) (nI n) rg), (oa rx cI cap X), (oa ry cI cap Y)]) [0, 1, 2] rfl
                have hD9 := hD.sub (ws' := [(oc6 r (.ref rx) (.ref ry) (nI n) rg), (oa rx cI cap X), (oa ry cI cap Y)]) [0, 1, 2] (by decide) rfl
                rw [hQ9]
                exact W.zret (ty := .boolean) (v := 0) hx hb hr (rfl) (fun t ht hW => ⟨⟨congrArg (fun z => Outcome.returned (some (Value.int z))) (show (0 : Int32) = pI (eMt n X Y i n X Y j) from (zp_f (by unfold eMt mtC; intro h; exact h.2.1 (by omega))).symm), by rw [ht]; exact hP9, hD9⟩, hS.F ht⟩) hS.2.2 dX7_partsMeet_221
              · have c_26 : (Y (nxt n j)).toInt ≤ (Y (nxt n i)).toInt := zc_nlt rfl rfl c_26
                exact hj_18 (by omega)
      have hj_27 : (¬ ((X i).toInt < (X j).toInt ∧ (X (nxt n i)).toInt < (X j).toInt ∧ (X i).toInt < (X (nxt n j)).toInt ∧ (X (nxt n i)).toInt < (X (nxt n j)).toInt)) → W p l e ((headSpec (.code yX7_partsMeet cX7_partsMeet 18 (some .boolean) :: ws0) ({ frames := 0, cells := 0, slots := 0, locals := 0 } : Room)).room) s m ([.ref r, .int (nI i), .ref r, .int (nI j)] : List Value).toArray below meth c s.heap [] 0 0 Q9 (F0 m 134 ls []) := by
        intro hbx0
        refine lv_iload hx hb dX7_partsMeet_134 (lv_at hl 7 rfl) ?_
        refine lv_iload hx hb dX7_partsMeet_136 (lv_at hl 3 rfl) ?_
        refine lv_icmp_le (tgt := 164) hx hb dX7_partsMeet_138 (by decide) (fun c_28 => ?_) (fun c_28 => ?_)
        · have c_28 : (X i).toInt ≤ (X j).toInt := zc_le rfl rfl c_28
          exact hj_3 (by omega)
        · have c_28 : (X j).toInt < (X i).toInt := zc_nle rfl rfl c_28
          refine lv_iload hx hb dX7_partsMeet_141 (lv_at hl 5 rfl) ?_
          refine lv_iload hx hb dX7_partsMeet_143 (lv_at hl 3 rfl) ?_
          refine lv_icmp_le (tgt := 164) hx hb dX7_partsMeet_145 (by decide) (fun c_29 => ?_) (fun c_29 => ?_)
          · have c_29 : (X (nxt n i)).toInt ≤ (X j).toInt := zc_le rfl rfl c_29
            exact hj_3 (by omega)
          · have c_29 : (X j).toInt < (X (nxt n i)).toInt := zc_nle rfl rfl c_29
            refine lv_iload hx hb dX7_partsMeet_148 (lv_at hl 7 rfl) ?_
            refine lv_iload hx hb dX7_partsMeet_150 (lv_at hl 1 rfl) ?_
            refine lv_icmp_le (tgt := 164) hx hb dX7_partsMeet_152 (by decide) (fun c_30 => ?_) (fun c_30 => ?_)
            · have c_30 : (X i).toInt ≤ (X (nxt n j)).toInt := zc_le rfl rfl c_30
              exact hj_3 (by omega)
            · have c_30 : (X (nxt n j)).toInt < (X i).toInt := zc_nle rfl rfl c_30
              refine lv_iload hx hb dX7_partsMeet_155 (lv_at hl 5 rfl) ?_
              refine lv_iload hx hb dX7_partsMeet_157 (lv_at hl 1 rfl) ?_
              refine lv_icmp_le (tgt := 164) hx hb dX7_partsMeet_159 (by decide) (fun c_31 => ?_) (fun c_31 => ?_)
              · have c_31 : (X (nxt n i)).toInt ≤ (X (nxt n j)).toInt := zc_le rfl rfl c_31
                exact hj_3 (by omega)
              · have c_31 : (X (nxt n j)).toInt < (X (nxt n i)).toInt := zc_nle rfl rfl c_31
                refine lv_iconst (v := 0) hx hb dX7_partsMeet_162 (by decide) ?_
                have hP9 := hP.sub (ws' := [(oc6 r (.ref rx) (.ref ry) (nI n) rg), (oa rx cI cap X), (oa ry cI cap Y)]) [0, 1, 2] rfl
                have hD9 := hD.sub (ws' := [(oc6 r (.ref rx) (.ref ry) (nI n) rg), (oa rx cI cap X), (oa ry cI cap Y)]) [0, 1, 2] (by decide) rfl
                rw [hQ9]
                exact W.zret (ty := .boolean) (v := 0) hx hb hr (rfl) (fun t ht hW => ⟨⟨congrArg (fun z => Outcome.returned (some (Value.int z))) (show (0 : Int32) = pI (eMt n X Y i n X Y j) from (zp_f (by unfold eMt mtC; intro h; exact h.1 (by omega))).symm), by rw [ht]; exact hP9, hD9⟩, hS.F ht⟩) hS.2.2 dX7_partsMeet_163
      refine lv_iload hx hb dX7_partsMeet_106 (lv_at hl 7 rfl) ?_
      refine lv_iload hx hb dX7_partsMeet_108 (lv_at hl 3 rfl) ?_
      refine lv_icmp_ge (tgt := 134) hx hb dX7_partsMeet_110 (by decide) (fun c_32 => ?_) (fun c_32 => ?_)
      · have c_32 : (X j).toInt ≤ (X i).toInt := zc_le rfl rfl c_32
        exact hj_27 (by omega)
      · have c_32 : (X i).toInt < (X j).toInt := zc_nle rfl rfl c_32
        refine lv_iload hx hb dX7_partsMeet_113 (lv_at hl 5 rfl) ?_
        refine lv_iload hx hb dX7_partsMeet_115 (lv_at hl 3 rfl) ?_
        refine lv_icmp_ge (tgt := 134) hx hb dX7_partsMeet_117 (by decide) (fun c_33 => ?_) (fun c_33 => ?_)
        · have c_33 : (X j).toInt ≤ (X (nxt n i)).toInt := zc_le rfl rfl c_33
          exact hj_27 (by omega)
        · have c_33 : (X (nxt n i)).toInt < (X j).toInt := zc_nle rfl rfl c_33
          refine lv_iload hx hb dX7_partsMeet_120 (lv_at hl 7 rfl) ?_
          refine lv_iload hx hb dX7_partsMeet_122 (lv_at hl 1 rfl) ?_
          refine lv_icmp_ge (tgt := 134) hx hb dX7_partsMeet_124 (by decide) (fun c_34 => ?_) (fun c_34 => ?_)
          · have c_34 : (X (nxt n j)).toInt ≤ (X i).toInt := zc_le rfl rfl c_34
            exact hj_27 (by omega)
          · have c_34 : (X i).toInt < (X (nxt n j)).toInt := zc_nle rfl rfl c_34
            refine lv_iload hx hb dX7_partsMeet_127 (lv_at hl 5 rfl) ?_
            refine lv_iload hx hb dX7_partsMeet_129 (lv_at hl 1 rfl) ?_
            refine lv_icmp_lt (tgt := 162) hx hb dX7_partsMeet_131 (by decide) (fun c_35 => ?_) (fun c_35 => ?_)
            · have c_35 : (X (nxt n i)).toInt < (X (nxt n j)).toInt := zc_lt rfl rfl c_35
              refine lv_iconst (v := 0) hx hb dX7_partsMeet_162 (by decide) ?_
              have hP9 := hP.sub (ws' := [(oc6 r (.ref rx) (.ref ry) (nI n) rg), (oa rx cI cap X), (oa ry cI cap Y)]) [0, 1, 2] rfl
              have hD9 := hD.sub (ws' := [(oc6 r (.ref rx) (.ref ry) (nI n) rg), (oa rx cI cap X), (oa ry cI cap Y)]) [0, 1, 2] (by decide) rfl
              rw [hQ9]
              exact W.zret (ty := .boolean) (v := 0) hx hb hr (rfl) (fun t ht hW => ⟨⟨congrArg (fun z => Outcome.returned (some (Value.int z))) (show (0 : Int32) = pI (eMt n X Y i n X Y j) from (zp_f (by unfold eMt mtC; intro h; exact h.1 (by omega))).symm), by rw [ht]; exact hP9, hD9⟩, hS.F ht⟩) hS.2.2 dX7_partsMeet_163
            · have c_35 : (X (nxt n j)).toInt ≤ (X (nxt n i)).toInt := zc_nlt rfl rfl c_35
              exact hj_27 (by omega)
    refine lv_icmp_ge (tgt := 35) hx hb dX7_partsMeet_26 (by decide) (fun c_36 => ?_) (fun c_36 => ?_)
    · have c_36 : ((n : Nat) : Int) ≤ ((j + 1 : Nat) : Int) := zc_le (nI_toInt (by omega)) (nI_toInt (by omega)) c_36
      refine lv_iconst (v := 0) hx hb dX7_partsMeet_35 (by decide) ?_
      refine zz_i (v := nI (nxt n j)) (by first | (rw [nxt, if_pos (by omega)]) | (rw [nxt, if_neg (by omega)]; first | done | rfl)) ?_
      exact hj_2 
    · have c_36 : ((j + 1 : Nat) : Int) < ((n : Nat) : Int) := zc_nle (nI_toInt (by omega)) (nI_toInt (by omega)) c_36
      refine lv_iload_n hx hb dX7_partsMeet_29 rfl (lv_at hl 4 rfl) ?_
      refine lv_iconst (v := 1) hx hb dX7_partsMeet_30 (by decide) ?_
      refine lv_iadd hx hb dX7_partsMeet_31 ?_
      refine zz_i (v := nI (j + 1)) (nI_add j 1) ?_
      refine lv_goto (tgt := 36) hx hb dX7_partsMeet_32 (by decide) ?_
      refine zz_i (v := nI (nxt n j)) (by first | (rw [nxt, if_pos (by omega)]) | (rw [nxt, if_neg (by omega)]; first | done | rfl)) ?_
      exact hj_2 
  refine lv_icmp_ge (tgt := 16) hx hb dX7_partsMeet_7 (by decide) (fun c_37 => ?_) (fun c_37 => ?_)
  · have c_37 : ((n : Nat) : Int) ≤ ((i + 1 : Nat) : Int) := zc_le (nI_toInt (by omega)) (nI_toInt (by omega)) c_37
    refine lv_iconst (v := 0) hx hb dX7_partsMeet_16 (by decide) ?_
    refine zz_i (v := nI (nxt n i)) (by first | (rw [nxt, if_pos (by omega)]) | (rw [nxt, if_neg (by omega)]; first | done | rfl)) ?_
    exact hj_1 
  · have c_37 : ((i + 1 : Nat) : Int) < ((n : Nat) : Int) := zc_nle (nI_toInt (by omega)) (nI_toInt (by omega)) c_37
    refine lv_iload_n hx hb dX7_partsMeet_10 rfl (lv_at hl 1 rfl) ?_
    refine lv_iconst (v := 1) hx hb dX7_partsMeet_11 (by decide) ?_
    refine lv_iadd hx hb dX7_partsMeet_12 ?_
    refine zz_i (v := nI (i + 1)) (nI_add i 1) ?_
    refine lv_goto (tgt := 17) hx hb dX7_partsMeet_13 (by decide) ?_
    refine zz_i (v := nI (nxt n i)) (by first | (rw [nxt, if_pos (by omega)]) | (rw [nxt, if_neg (by omega)]; first | done | rfl)) ?_
    exact hj_1 
set_option maxHeartbeats 4000000 in
set_option maxRecDepth 100000 in
theorem k_Row_touches (l : Launch) (dC : Nat → ClassId) (dI : Nat → Nat → Nat) (cI cZ cF : ClassId) (sz : Nat) (r : Nat) (rx : Nat) (ry : Nat) (n : Nat) (cap : Nat) (X : Nat → Int32) (Y : Nat → Int32) (rg : Int32) (u : Nat) (ux : Nat) (uy : Nat) (m2 : Nat) (cap2 : Nat) (U : Nat → Int32) (V : Nat → Int32) (rh : Int32) (hn : n ≤ cap) (hcap : cap ≤ 1000) (hp : pls n X Y) (hm : m2 ≤ cap2) (hcap2 : cap2 ≤ 1000) (hq : pls m2 U V) : Met l yX7_touches (.code yX7_touches cX7_touches 6 (some .boolean) :: ws0) ({ frames := 2, cells := 0, slots := 0, locals := 40 } : Room) (va_Pc [.ref r, .ref u] (zPre (dC, dI) classes (zTy cI cZ cF) [(oc6 r (.ref rx) (.ref ry) (nI n) rg), (oa rx cI cap X), (oa ry cI cap Y), (oc6 u (.ref ux) (.ref uy) (nI m2) rh), (oa ux cI cap2 U), (oa uy cI cap2 V)] sz zXN)) (zQ (some (.int (pI (∃ i, i < prt n rg ∧ ∃ j, j < prt m2 rh ∧ eMt n X Y i m2 U V j)))) (fun t => va_P (dC, dI) classes [(oc6 r (.ref rx) (.ref ry) (nI n) rg), (oa rx cI cap X), (oa ry cI cap Y), (oc6 u (.ref ux) (.ref uy) (nI m2) rh), (oa ux cI cap2 U), (oa uy cI cap2 V)] t.heap ∧ va_D (va_A [(oc6 r (.ref rx) (.ref ry) (nI n) rg), (oa rx cI cap X), (oa ry cI cap Y), (oc6 u (.ref ux) (.ref uy) (nI m2) rh), (oa ux cI cap2 U), (oa uy cI cap2 V)] sz) [(oc6 r (.ref rx) (.ref ry) (nI n) rg), (oa rx cI cap X), (oa ry cI cap Y), (oc6 u (.ref ux) (.ref uy) (nI m2) rh), (oa ux cI cap2 U), (oa uy cI cap2 V)]) (va_A [(oc6 r (.ref rx) (.ref ry) (nI n) rg), (oa rx cI cap X), (oa ry cI cap Y), (oc6 u (.ref ux) (.ref uy) (nI m2) rh), (oa ux cI cap2 U), (oa uy cI cap2 V)] sz)) 0 0 (va_A [(oc6 r (.ref rx) (.ref ry) (nI n) rg), (oa rx cI cap X), (oa ry cI cap Y), (oc6 u (.ref ux) (.ref uy) (nI m2) rh), (oa ux cI cap2 U), (oa uy cI cap2 V)] sz) := by
  refine Met.ofW (cc := cX7_touches) (maxL := 6) (ret := (some .boolean)) (by decide) rfl ?_
  intro p e s m args below meth c s₁ B hml hv
  obtain ⟨rfl, hsz, hP, hK, hD0, hXN⟩ := hv
  have hx := B.exec
  have hb := B.bytes
  have hr := B.returns
  have hts0 := atoms_spec (ws := .code yX7_touches cX7_touches 6 (some .boolean) :: ws0) B.pre
  have hts : ∀ w9 ∈ ws0, w9.before ([.ref r, .ref u] : List Value).toArray s = true := fun w9 h => hts0 w9 (List.mem_cons_of_mem _ h)
  have hown : s.vm.findClass "ScaleShop$Row" = some m.cls := findClass_of_methodNamed B.named
  have hlocks := B.notSynchronized
  subst hsz
  have hD := hD0.self (sz := s.heap.size)
  clear hD0
  generalize hAe : va_A [(oc6 r (.ref rx) (.ref ry) (nI n) rg), (oa rx cI cap X), (oa ry cI cap Y), (oc6 u (.ref ux) (.ref uy) (nI m2) rh), (oa ux cI cap2 U), (oa uy cI cap2 V)] s.heap.size = A at hD ⊢
  have hA : ∀ q : Nat, s.heap.size ≤ q → A q := fun q h => by rw [← hAe]; exact Or.inr h
  clear hAe
  have hS : va_S A s.heap s.heap [] := va_S.rf
  have hP : va_P (dC, dI) classes [(oc6 r (.ref rx) (.ref ry) (nI n) rg), (oa rx cI cap X), (oa ry cI cap Y), (oc6 u (.ref ux) (.ref uy) (nI m2) rh), (oa ux cI cap2 U), (oa uy cI cap2 V)] s.heap := hP
  obtain ⟨Q9, hQ9⟩ : ∃ Q9 : State → Prop, Q9 = MQ below (zQ (some (.int (pI (∃ i, i < prt n rg ∧ ∃ j, j < prt m2 rh ∧ eMt n X Y i m2 U V j)))) (fun t => va_P (dC, dI) classes [(oc6 r (.ref rx) (.ref ry) (nI n) rg), (oa rx cI cap X), (oa ry cI cap Y), (oc6 u (.ref ux) (.ref uy) (nI m2) rh), (oa ux cI cap2 U), (oa uy cI cap2 V)] t.heap ∧ va_D A [(oc6 r (.ref rx) (.ref ry) (nI n) rg), (oa rx cI cap X), (oa ry cI cap Y), (oc6 u (.ref ux) (.ref uy) (nI m2) rh), (oa ux cI cap2 U), (oa uy cI cap2 V)]) A) ([.ref r, .ref u] : List Value).toArray s 0 0 A := ⟨_, rfl⟩
  rw [← hQ9]
  have hl := lv_entry ([.ref r, .ref u]) (n := 6) (Nat.le_of_ble_eq_true rfl)
  rw [lg_entry_eq]
  generalize (lg_sl ([.ref r, .ref u]) ++ List.replicate (6 - (lg_sl ([.ref r, .ref u])).length) Slot.unset).toArray = ls at hl ⊢
  have hl : lv_has ls 6 [(0, .ref r), (1, .ref u)] := hl
  have hpr := prt_le n rg
  have hpr2 := prt_le m2 rh
  refine lv_aload_n hx hb dX7_touches_0 rfl (lv_at hl 0 rfl) ?_
  have hPc := hP.sub (ws' := [(oc6 r (.ref rx) (.ref ry) (nI n) rg), (oa rx cI cap X), (oa ry cI cap Y)]) [0, 1, 2] rfl
  have hDc := hD.sub (ws' := [(oc6 r (.ref rx) (.ref ry) (nI n) rg), (oa rx cI cap X), (oa ry cI cap Y)]) [0, 1, 2] (by decide) rfl
  have hFc := va_free (wc := [(oc6 r (.ref rx) (.ref ry) (nI n) rg), (oa rx cI cap X), (oa ry cI cap Y)]) hD hS hA [0, 1, 2] rfl
  refine zcall (st1 := [.int (nI (prt n rg))]) (va_runV (As := []) (rest := []) ⟨hx, hb, hml, hown, hts⟩ (k_Row_parts l dC dI cI cZ cF s.heap.size r rx ry n cap X Y rg (by omega) (by omega)) (cwV 0 hts (zz_gV mw_622 mw_623 mw_624 mw_102 mc_yX7_parts) rfl rfl rfl (by decide +kernel) ⟨Nat.le_of_ble_eq_true rfl, Nat.le_of_ble_eq_true rfl⟩) (zPV2 (q0 := 0) (ci := 6) hPc hDc hK hXN rfl rfl) rfl rfl hl.1 rfl (lv_room (Nat.le_of_ble_eq_true rfl)) dX7_touches_1 ⟨Nat.le_of_ble_eq_true rfl, Nat.le_of_ble_eq_true rfl⟩) hS hFc hFc rfl (fun t H1 locs ht hB hk1 hS => ?_)
  obtain ⟨hP1, hD1⟩ := hB
  rw [ht] at hP1
  obtain ⟨hP, hD⟩ := va_join (wr := [(oc6 u (.ref ux) (.ref uy) (nI m2) rh), (oa ux cI cap2 U), (oa uy cI cap2 V)]) (w1 := [(oc6 r (.ref rx) (.ref ry) (nI n) rg), (oa rx cI cap X), (oa ry cI cap Y)]) hP hD [0, 1, 2] [3, 4, 5] rfl rfl (by decide) (by decide) hk1 hFc hP1 hD1
  clear hk1 hPc hDc hFc hP1 hD1 ht
  generalize H1 = H at hP hS ⊢
  have hP := hP.sub (ws' := [(oc6 r (.ref rx) (.ref ry) (nI n) rg), (oa rx cI cap X), (oa ry cI cap Y), (oc6 u (.ref ux) (.ref uy) (nI m2) rh), (oa ux cI cap2 U), (oa uy cI cap2 V)]) [3, 4, 5, 0, 1, 2] rfl
  have hD := hD.sub (ws' := [(oc6 r (.ref rx) (.ref ry) (nI n) rg), (oa rx cI cap X), (oa ry cI cap Y), (oc6 u (.ref ux) (.ref uy) (nI m2) rh), (oa ux cI cap2 U), (oa uy cI cap2 V)]) [3, 4, 5, 0, 1, 2] (by decide) rfl
  have hP : va_P (dC, dI) classes [(oc6 r (.ref rx) (.ref ry) (nI n) rg), (oa rx cI cap X), (oa ry cI cap Y), (oc6 u (.ref ux) (.ref uy) (nI m2) rh), (oa ux cI cap2 U), (oa uy cI cap2 V)] H := hP
  have hD : va_D A [(oc6 r (.ref rx) (.ref ry) (nI n) rg), (oa rx cI cap X), (oa ry cI cap Y), (oc6 u (.ref ux) (.ref uy) (nI m2) rh), (oa ux cI cap2 U), (oa uy cI cap2 V)] := hD
  refine lv_istore_n (lv' := [(2, .int (nI (prt n rg))), (0, .ref r), (1, .ref u)]) hx hb dX7_touches_4 rfl hl (by decide) rfl (fun ls hl => ?_)
  refine lv_aload_n hx hb dX7_touches_5 rfl (lv_at hl 2 rfl) ?_
  have hPc := hP.sub (ws' := [(oc6 u (.ref ux) (.ref uy) (nI m2) rh), (oa ux cI cap2 U), (oa uy cI cap2 V)]) [3, 4, 5] rfl
  have hDc := hD.sub (ws' := [(oc6 u (.ref ux) (.ref uy) (nI m2) rh), (oa ux cI cap2 U), (oa uy cI cap2 V)]) [3, 4, 5] (by decide) rfl
  have hFc := va_free (wc := [(oc6 u (.ref ux) (.ref uy) (nI m2) rh), (oa ux cI cap2 U), (oa uy cI cap2 V)]) hD hS hA [3, 4, 5] rfl
  refine zcall (st1 := [.int (nI (prt m2 rh))]) (va_runV (As := []) (rest := []) ⟨hx, hb, hml, hown, hts⟩ (k_Row_parts l dC dI cI cZ cF H.size u ux uy m2 cap2 U V rh (by omega) (by omega)) (cwV 0 hts (zz_gV mw_622 mw_623 mw_624 mw_102 mc_yX7_parts) rfl rfl rfl (by decide +kernel) ⟨Nat.le_of_ble_eq_true rfl, Nat.le_of_ble_eq_true rfl⟩) (zPV2 (q0 := 0) (ci := 6) hPc hDc hK hXN rfl rfl) rfl rfl hl.1 rfl (lv_room (Nat.le_of_ble_eq_true rfl)) dX7_touches_6 ⟨Nat.le_of_ble_eq_true rfl, Nat.le_of_ble_eq_true rfl⟩) hS hFc hFc rfl (fun t H1 locs ht hB hk1 hS => ?_)
  obtain ⟨hP1, hD1⟩ := hB
  rw [ht] at hP1
  obtain ⟨hP, hD⟩ := va_join (wr := [(oc6 r (.ref rx) (.ref ry) (nI n) rg), (oa rx cI cap X), (oa ry cI cap Y)]) (w1 := [(oc6 u (.ref ux) (.ref uy) (nI m2) rh), (oa ux cI cap2 U), (oa uy cI cap2 V)]) hP hD [3, 4, 5] [0, 1, 2] rfl rfl (by decide) (by decide) hk1 hFc hP1 hD1
  clear hk1 hPc hDc hFc hP1 hD1 ht
  generalize H1 = H at hP hS ⊢
  have hP : va_P (dC, dI) classes [(oc6 r (.ref rx) (.ref ry) (nI n) rg), (oa rx cI cap X), (oa ry cI cap Y), (oc6 u (.ref ux) (.ref uy) (nI m2) rh), (oa ux cI cap2 U), (oa uy cI cap2 V)] H := hP
  have hD : va_D A [(oc6 r (.ref rx) (.ref ry) (nI n) rg), (oa rx cI cap X), (oa ry cI cap Y), (oc6 u (.ref ux) (.ref uy) (nI m2) rh), (oa ux cI cap2 U), (oa uy cI cap2 V)] := hD
  refine lv_istore_n (lv' := [(3, .int (nI (prt m2 rh))), (2, .int (nI (prt n rg))), (0, .ref r), (1, .ref u)]) hx hb dX7_touches_9 rfl hl (by decide) rfl (fun ls hl => ?_)
  refine lv_iconst (v := 0) hx hb dX7_touches_10 (by decide) ?_
  refine lv_istore (lv' := [(4, .int 0), (3, .int (nI (prt m2 rh))), (2, .int (nI (prt n rg))), (0, .ref r), (1, .ref u)]) hx hb dX7_touches_11 hl (by decide) rfl (fun ls hl => ?_)
  have hl_13 : ∀ (n9 : Nat) (i : Nat) (H : Heap) (locs : List Loc) (ls : Array Slot), prt n rg - i < n9 → (i ≤ prt n rg) → (∀ k, k < i → ∀ j, j < prt m2 rh → ¬ eMt n X Y k m2 U V j) → va_P (dC, dI) classes [(oc6 r (.ref rx) (.ref ry) (nI n) rg), (oa rx cI cap X), (oa ry cI cap Y), (oc6 u (.ref ux) (.ref uy) (nI m2) rh), (oa ux cI cap2 U), (oa uy cI cap2 V)] H → va_D A [(oc6 r (.ref rx) (.ref ry) (nI n) rg), (oa rx cI cap X), (oa ry cI cap Y), (oc6 u (.ref ux) (.ref uy) (nI m2) rh), (oa ux cI cap2 U), (oa uy cI cap2 V)] → va_S A s.heap H locs → lv_has ls 6 [(4, .int (nI i)), (3, .int (nI (prt m2 rh))), (2, .int (nI (prt n rg))), (0, .ref r), (1, .ref u)] → W p l e ((headSpec (.code yX7_touches cX7_touches 6 (some .boolean) :: ws0) ({ frames := 2, cells := 0, slots := 0, locals := 40 } : Room)).room) s m ([.ref r, .ref u] : List Value).toArray below meth c H locs 0 0 Q9 (F0 m 13 ls []) := by
    intro n9
    induction n9 with
    | zero => intro i H locs ls hm; exact absurd hm (Nat.not_lt_zero _)
    | succ n9 ih_13 =>
      intro i H locs ls hm hi hno hP hD hS hl
      refine lv_iload hx hb dX7_touches_13 (lv_at hl 0 rfl) ?_
      refine lv_iload_n hx hb dX7_touches_15 rfl (lv_at hl 2 rfl) ?_
      refine lv_icmp_ge (tgt := 54) hx hb dX7_touches_16 (by decide) (fun c_1 => ?_) (fun c_1 => ?_)
      · have c_1 : ((prt n rg : Nat) : Int) ≤ ((i : Nat) : Int) := zc_le (nI_toInt (by omega)) (nI_toInt (by omega)) c_1
        refine lv_iconst (v := 0) hx hb dX7_touches_54 (by decide) ?_
        have hP9 := hP.sub (ws' := [(oc6 r (.ref rx) (.ref ry) (nI n) rg), (oa rx cI cap X), (oa ry cI cap Y), (oc6 u (.ref ux) (.ref uy) (nI m2) rh), (oa ux cI cap2 U), (oa uy cI cap2 V)]) [0, 1, 2, 3, 4, 5] rfl
        have hD9 := hD.sub (ws' := [(oc6 r (.ref rx) (.ref ry) (nI n) rg), (oa rx cI cap X), (oa ry cI cap Y), (oc6 u (.ref ux) (.ref uy) (nI m2) rh), (oa ux cI cap2 U), (oa uy cI cap2 V)]) [0, 1, 2, 3, 4, 5] (by decide) rfl
        rw [hQ9]
        exact W.zret (ty := .boolean) (v := 0) hx hb hr (rfl) (fun t ht hW => ⟨⟨congrArg (fun z => Outcome.returned (some (Value.int z))) (show (0 : Int32) = pI (∃ i, i < prt n rg ∧ ∃ j, j < prt m2 rh ∧ eMt n X Y i m2 U V j) from (zp_f (fun ⟨k, hk, j, hj, h⟩ => hno k (by omega) j hj h)).symm), by rw [ht]; exact hP9, hD9⟩, hS.F ht⟩) hS.2.2 dX7_touches_55
      · have c_1 : ((i : Nat) : Int) < ((prt n rg : Nat) : Int) := zc_nle (nI_toInt (by omega)) (nI_toInt (by omega)) c_1
        refine lv_iconst (v := 0) hx hb dX7_touches_19 (by decide) ?_
        refine lv_istore (lv' := [(5, .int 0), (4, .int (nI i)), (3, .int (nI (prt m2 rh))), (2, .int (nI (prt n rg))), (0, .ref r), (1, .ref u)]) hx hb dX7_touches_20 hl (by decide) rfl (fun ls hl => ?_)
        have hl_22 : ∀ (n9 : Nat) (j : Nat) (H : Heap) (locs : List Loc) (ls : Array Slot), prt m2 rh - j < n9 → (j ≤ prt m2 rh) → (∀ k, k < j → ¬ eMt n X Y i m2 U V k) → va_P (dC, dI) classes [(oc6 r (.ref rx) (.ref ry) (nI n) rg), (oa rx cI cap X), (oa ry cI cap Y), (oc6 u (.ref ux) (.ref uy) (nI m2) rh), (oa ux cI cap2 U), (oa uy cI cap2 V)] H → va_D A [(oc6 r (.ref rx) (.ref ry) (nI n) rg), (oa rx cI cap X), (oa ry cI cap Y), (oc6 u (.ref ux) (.ref uy) (nI m2) rh), (oa ux cI cap2 U), (oa uy cI cap2 V)] → va_S A s.heap H locs → lv_has ls 6 [(5, .int (nI j)), (4, .int (nI i)), (3, .int (nI (prt m2 rh))), (2, .int (nI (prt n rg))), (0, .ref r), (1, .ref u)] → W p l e ((headSpec (.code yX7_touches cX7_touches 6 (some .boolean) :: ws0) ({ frames := 2, cells := 0, slots := 0, locals := 40 } : Room)).room) s m ([.ref r, .ref u] : List Value).toArray below meth c H locs 0 0 Q9 (F0 m 22 ls []) := by
          intro n9
          induction n9 with
          | zero => intro j H locs ls hm; exact absurd hm (Nat.not_lt_zero _)
          | succ n9 ih_22 =>
            intro j H locs ls hm hj hno2 hP hD hS hl
            refine lv_iload hx hb dX7_touches_22 (lv_at hl 0 rfl) ?_
            refine lv_iload_n hx hb dX7_touches_24 rfl (lv_at hl 2 rfl) ?_
            refine lv_icmp_ge (tgt := 48) hx hb dX7_touches_25 (by decide) (fun c_2 => ?_) (fun c_2 => ?_)
            · have c_2 : ((prt m2 rh : Nat) : Int) ≤ ((j : Nat) : Int) := zc_le (nI_toInt (by omega)) (nI_toInt (by omega)) c_2
              refine lv_iinc (v := nI (i + 1)) (lv' := [(4, .int (nI (i + 1))), (5, .int (nI j)), (3, .int (nI (prt m2 rh))), (2, .int (nI (prt n rg))), (0, .ref r), (1, .ref u)]) hx hb dX7_touches_48 hl (k := 1) rfl (nI_add i 1) (by decide) rfl (fun ls hl => ?_)
              refine lv_goto (tgt := 13) hx hb dX7_touches_51 (by decide) ?_
              exact ih_13 (i + 1) H locs ls (by omega) (by omega) (by intro k hk; rcases Nat.lt_or_ge k i with h | h; exact hno k h; intro j2 hj2; have e9 : k = i := (by omega); subst e9; exact hno2 j2 (by omega)) hP hD hS (lv_sub hl [0, 2, 3, 4, 5] rfl)
            · have c_2 : ((j : Nat) : Int) < ((prt m2 rh : Nat) : Int) := zc_nle (nI_toInt (by omega)) (nI_toInt (by omega)) c_2
              refine lv_aload_n hx hb dX7_touches_28 rfl (lv_at hl 4 rfl) ?_
              refine lv_iload hx hb dX7_touches_29 (lv_at hl 1 rfl) ?_
              refine lv_aload_n hx hb dX7_touches_31 rfl (lv_at hl 5 rfl) ?_
              refine lv_iload hx hb dX7_touches_32 (lv_at hl 0 rfl) ?_
              have hPc := hP.sub (ws' := [(oc6 r (.ref rx) (.ref ry) (nI n) rg), (oa rx cI cap X), (oa ry cI cap Y), (oc6 u (.ref ux) (.ref uy) (nI m2) rh), (oa ux cI cap2 U), (oa uy cI cap2 V)]) [0, 1, 2, 3, 4, 5] rfl
              have hDc := hD.sub (ws' := [(oc6 r (.ref rx) (.ref ry) (nI n) rg), (oa rx cI cap X), (oa ry cI cap Y), (oc6 u (.ref ux) (.ref uy) (nI m2) rh), (oa ux cI cap2 U), (oa uy cI cap2 V)]) [0, 1, 2, 3, 4, 5] (by decide) rfl
              have hFc := va_free (wc := [(oc6 r (.ref rx) (.ref ry) (nI n) rg), (oa rx cI cap X), (oa ry cI cap Y), (oc6 u (.ref ux) (.ref uy) (nI m2) rh), (oa ux cI cap2 U), (oa uy cI cap2 V)]) hD hS hA [0, 1, 2, 3, 4, 5] rfl
              refine zcall (st1 := [.int (pI (eMt n X Y i m2 U V j))]) (va_runV (As := [.int (nI i), .ref u, .int (nI j)]) (rest := []) ⟨hx, hb, hml, hown, hts⟩ (k_Row_partsMeet l dC dI cI cZ cF H.size r rx ry n cap X Y rg u ux uy m2 cap2 U V rh i j (by omega) (by omega) (by assumption) (by omega) (by omega) (by assumption) (by omega) (by omega)) (cwV 3 hts (zz_gV mw_548 mw_549 mw_550 mw_102 mc_yX7_partsMeet) rfl rfl rfl (by decide +kernel) ⟨Nat.le_of_ble_eq_true rfl, Nat.le_of_ble_eq_true rfl⟩) (zPV2 (q0 := 0) (ci := 6) hPc hDc hK hXN rfl rfl) rfl rfl hl.1 rfl (lv_room (Nat.le_of_ble_eq_true rfl)) dX7_touches_34 ⟨Nat.le_of_ble_eq_true rfl, Nat.le_of_ble_eq_true rfl⟩) hS hFc hFc rfl (fun t H1 locs ht hB hk1 hS => ?_)
              obtain ⟨hP1, hD1⟩ := hB
              rw [ht] at hP1
              obtain ⟨hP, hD⟩ := va_join (wr := []) (w1 := [(oc6 r (.ref rx) (.ref ry) (nI n) rg), (oa rx cI cap X), (oa ry cI cap Y), (oc6 u (.ref ux) (.ref uy) (nI m2) rh), (oa ux cI cap2 U), (oa uy cI cap2 V)]) hP hD [0, 1, 2, 3, 4, 5] [] rfl rfl (by decide) (by decide) hk1 hFc hP1 hD1
              clear hk1 hPc hDc hFc hP1 hD1 ht
              generalize H1 = H at hP hS ⊢
              have hP : va_P (dC, dI) classes [(oc6 r (.ref rx) (.ref ry) (nI n) rg), (oa rx cI cap X), (oa ry cI cap Y), (oc6 u (.ref ux) (.ref uy) (nI m2) rh), (oa ux cI cap2 U), (oa uy cI cap2 V)] H := hP
              have hD : va_D A [(oc6 r (.ref rx) (.ref ry) (nI n) rg), (oa rx cI cap X), (oa ry cI cap Y), (oc6 u (.ref ux) (.ref uy) (nI m2) rh), (oa ux cI cap2 U), (oa uy cI cap2 V)] := hD
              refine lv_if_eq (tgt := 42) hx hb dX7_touches_37 (by decide) (fun c_3 => ?_) (fun c_3 => ?_)
              · have c_3 : ¬ (eMt n X Y i m2 U V j) := zp_0 c_3
                refine lv_iinc (v := nI (j + 1)) (lv' := [(5, .int (nI (j + 1))), (4, .int (nI i)), (3, .int (nI (prt m2 rh))), (2, .int (nI (prt n rg))), (0, .ref r), (1, .ref u)]) hx hb dX7_touches_42 hl (k := 0) rfl (nI_add j 1) (by decide) rfl (fun ls hl => ?_)
                refine lv_goto (tgt := 22) hx hb dX7_touches_45 (by decide) ?_
                exact ih_22 (j + 1) H locs ls (by omega) (by omega) (by intro k hk; rcases Nat.lt_or_ge k j with h | h; exact hno2 k h; have e9 : k = j := (by omega); subst e9; assumption) hP hD hS (lv_sub hl [0, 1, 2, 3, 4, 5] rfl)
              · have c_3 : eMt n X Y i m2 U V j := zp_1 c_3
                refine lv_iconst (v := 1) hx hb dX7_touches_40 (by decide) ?_
                have hP9 := hP.sub (ws' := [(oc6 r (.ref rx) (.ref ry) (nI n) rg), (oa rx cI cap X), (oa ry cI cap Y), (oc6 u (.ref ux) (.ref uy) (nI m2) rh), (oa ux cI cap2 U), (oa uy cI cap2 V)]) [0, 1, 2, 3, 4, 5] rfl
                have hD9 := hD.sub (ws' := [(oc6 r (.ref rx) (.ref ry) (nI n) rg), (oa rx cI cap X), (oa ry cI cap Y), (oc6 u (.ref ux) (.ref uy) (nI m2) rh), (oa ux cI cap2 U), (oa uy cI cap2 V)]) [0, 1, 2, 3, 4, 5] (by decide) rfl
                rw [hQ9]
                exact W.zret (ty := .boolean) (v := 1) hx hb hr (rfl) (fun t ht hW => ⟨⟨congrArg (fun z => Outcome.returned (some (Value.int z))) (show (1 : Int32) = pI (∃ i, i < prt n rg ∧ ∃ j, j < prt m2 rh ∧ eMt n X Y i m2 U V j) from (zp_t (⟨i, by omega, j, by omega, by assumption⟩)).symm), by rw [ht]; exact hP9, hD9⟩, hS.F ht⟩) hS.2.2 dX7_touches_41
        exact hl_22 _ 0 H locs ls (Nat.lt_succ_self _) (by omega) (by intro k hk; omega) hP hD hS (lv_sub hl [0, 1, 2, 3, 4, 5] rfl)
  exact hl_13 _ 0 H locs ls (Nat.lt_succ_self _) (by omega) (by intro k hk; omega) hP hD hS (lv_sub hl [0, 1, 2, 3, 4] rfl)
set_option maxHeartbeats 4000000 in
set_option maxRecDepth 100000 in
theorem k_Row_put (l : Launch) (dC : Nat → ClassId) (dI : Nat → Nat → Nat) (cI cZ cF : ClassId) (sz : Nat) (r : Nat) (rx : Nat) (ry : Nat) (n : Nat) (cap : Nat) (X : Nat → Int32) (Y : Nat → Int32) (rg : Int32) (px : Int32) (py : Int32) (hn : n < cap) (hcap : cap ≤ 1000) : Met l yX7_put (.code yX7_put cX7_put 3 none :: ws0) ({ frames := 0, cells := 0, slots := 0, locals := 0 } : Room) (va_Pc [.ref r, .int px, .int py] (zPre (dC, dI) classes (zTy cI cZ cF) [(oc6 r (.ref rx) (.ref ry) (nI n) rg), (oa rx cI cap X), (oa ry cI cap Y)] sz zXN)) (zQ none (fun t => va_P (dC, dI) classes [(oc6 r (.ref rx) (.ref ry) (nI (n + 1)) rg), (oa rx cI cap (upd X n px)), (oa ry cI cap (upd Y n py))] t.heap ∧ va_D (va_A [(oc6 r (.ref rx) (.ref ry) (nI n) rg), (oa rx cI cap X), (oa ry cI cap Y)] sz) [(oc6 r (.ref rx) (.ref ry) (nI (n + 1)) rg), (oa rx cI cap (upd X n px)), (oa ry cI cap (upd Y n py))]) (va_A [(oc6 r (.ref rx) (.ref ry) (nI n) rg), (oa rx cI cap X), (oa ry cI cap Y)] sz)) 0 0 (va_A [(oc6 r (.ref rx) (.ref ry) (nI n) rg), (oa rx cI cap X), (oa ry cI cap Y)] sz) := by
  refine Met.ofW (cc := cX7_put) (maxL := 3) (ret := none) (by decide) rfl ?_
  intro p e s m args below meth c s₁ B hml hv
  obtain ⟨rfl, hsz, hP, hK, hD0, hXN⟩ := hv
  have hx := B.exec
  have hb := B.bytes
  have hr := B.returns
  have hts0 := atoms_spec (ws := .code yX7_put cX7_put 3 none :: ws0) B.pre
  have hts : ∀ w9 ∈ ws0, w9.before ([.ref r, .int px, .int py] : List Value).toArray s = true := fun w9 h => hts0 w9 (List.mem_cons_of_mem _ h)
  have hown : s.vm.findClass "ScaleShop$Row" = some m.cls := findClass_of_methodNamed B.named
  have hlocks := B.notSynchronized
  subst hsz
  have hD := hD0.self (sz := s.heap.size)
  clear hD0
  generalize hAe : va_A [(oc6 r (.ref rx) (.ref ry) (nI n) rg), (oa rx cI cap X), (oa ry cI cap Y)] s.heap.size = A at hD ⊢
  have hA : ∀ q : Nat, s.heap.size ≤ q → A q := fun q h => by rw [← hAe]; exact Or.inr h
  clear hAe
  have hS : va_S A s.heap s.heap [] := va_S.rf
  have hP : va_P (dC, dI) classes [(oc6 r (.ref rx) (.ref ry) (nI n) rg), (oa rx cI cap X), (oa ry cI cap Y)] s.heap := hP
  obtain ⟨Q9, hQ9⟩ : ∃ Q9 : State → Prop, Q9 = MQ below (zQ none (fun t => va_P (dC, dI) classes [(oc6 r (.ref rx) (.ref ry) (nI (n + 1)) rg), (oa rx cI cap (upd X n px)), (oa ry cI cap (upd Y n py))] t.heap ∧ va_D A [(oc6 r (.ref rx) (.ref ry) (nI (n + 1)) rg), (oa rx cI cap (upd X n px)), (oa ry cI cap (upd Y n py))]) A) ([.ref r, .int px, .int py] : List Value).toArray s 0 0 A := ⟨_, rfl⟩
  rw [← hQ9]
  have hl := lv_entry ([.ref r, .int px, .int py]) (n := 3) (Nat.le_of_ble_eq_true rfl)
  rw [lg_entry_eq]
  generalize (lg_sl ([.ref r, .int px, .int py]) ++ List.replicate (3 - (lg_sl ([.ref r, .int px, .int py])).length) Slot.unset).toArray = ls at hl ⊢
  have hl : lv_has ls 3 [(0, .ref r), (1, .int px), (2, .int py)] := hl
  refine lv_aload_n hx hb dX7_put_0 rfl (lv_at hl 0 rfl) ?_
  refine va_get (D := (dC, dI)) (ci := 6) (v := .int (nI n)) (C := RX7) (T := TX7) (N := 4) hx hb hts inX7 hown hK hP 0 rfl rfl 2 (by decide) (hts _ mw_175) (fun _ h9 => h9) rfl dX7_put_1 ?_
  refine lv_aload_n hx hb dX7_put_4 rfl (lv_at hl 0 rfl) ?_
  refine va_get (D := (dC, dI)) (ci := 6) (v := .ref rx) (C := RX7) (T := TX7) (N := 4) hx hb hts inX7 hown hK hP 0 rfl rfl 0 (by decide) (hts _ mw_161) (fun _ h9 => h9) rfl dX7_put_5 ?_
  refine va_alen (v := nI cap) hx hb hK hP 1 0 rfl rfl rfl dX7_put_8 ?_
  refine lv_icmp_ge (tgt := 42) hx hb dX7_put_9 (by decide) (fun c_1 => ?_) (fun c_1 => ?_)
  · have c_1 : ((cap : Nat) : Int) ≤ ((n : Nat) : Int) := zc_le (nI_toInt (by omega)) (nI_toInt (by omega)) c_1
    exfalso; omega
  · have c_1 : ((n : Nat) : Int) < ((cap : Nat) : Int) := zc_nle (nI_toInt (by omega)) (nI_toInt (by omega)) c_1
    refine lv_aload_n hx hb dX7_put_12 rfl (lv_at hl 0 rfl) ?_
    refine va_get (D := (dC, dI)) (ci := 6) (v := .ref rx) (C := RX7) (T := TX7) (N := 4) hx hb hts inX7 hown hK hP 0 rfl rfl 0 (by decide) (hts _ mw_161) (fun _ h9 => h9) rfl dX7_put_13 ?_
    refine lv_aload_n hx hb dX7_put_16 rfl (lv_at hl 0 rfl) ?_
    refine va_get (D := (dC, dI)) (ci := 6) (v := .int (nI n)) (C := RX7) (T := TX7) (N := 4) hx hb hts inX7 hown hK hP 0 rfl rfl 2 (by decide) (hts _ mw_175) (fun _ h9 => h9) rfl dX7_put_17 ?_
    refine lv_iload_n hx hb dX7_put_20 rfl (lv_at hl 1 rfl) ?_
    refine z_iast hx hb hK hP hD hS 1 0 rfl rfl (e := n) (x := px) rfl (by omega) (by omega) dX7_put_21 (fun H locs hP hD hS => ?_)
    have hP : va_P (dC, dI) classes [(oc6 r (.ref rx) (.ref ry) (nI n) rg), (oa rx cI cap (upd X n px)), (oa ry cI cap Y)] H := hP
    have hD : va_D A [(oc6 r (.ref rx) (.ref ry) (nI n) rg), (oa rx cI cap (upd X n px)), (oa ry cI cap Y)] := hD
    refine lv_aload_n hx hb dX7_put_22 rfl (lv_at hl 0 rfl) ?_
    refine va_get (D := (dC, dI)) (ci := 6) (v := .ref ry) (C := RX7) (T := TX7) (N := 4) hx hb hts inX7 hown hK hP 0 rfl rfl 1 (by decide) (hts _ mw_168) (fun _ h9 => h9) rfl dX7_put_23 ?_
    refine lv_aload_n hx hb dX7_put_26 rfl (lv_at hl 0 rfl) ?_
    refine va_get (D := (dC, dI)) (ci := 6) (v := .int (nI n)) (C := RX7) (T := TX7) (N := 4) hx hb hts inX7 hown hK hP 0 rfl rfl 2 (by decide) (hts _ mw_175) (fun _ h9 => h9) rfl dX7_put_27 ?_
    refine lv_iload_n hx hb dX7_put_30 rfl (lv_at hl 2 rfl) ?_
    refine z_iast hx hb hK hP hD hS 2 0 rfl rfl (e := n) (x := py) rfl (by omega) (by omega) dX7_put_31 (fun H locs hP hD hS => ?_)
    have hP : va_P (dC, dI) classes [(oc6 r (.ref rx) (.ref ry) (nI n) rg), (oa rx cI cap (upd X n px)), (oa ry cI cap (upd Y n py))] H := hP
    have hD : va_D A [(oc6 r (.ref rx) (.ref ry) (nI n) rg), (oa rx cI cap (upd X n px)), (oa ry cI cap (upd Y n py))] := hD
    refine lv_aload_n hx hb dX7_put_32 rfl (lv_at hl 0 rfl) ?_
    refine lv_dup hx hb dX7_put_33 rfl ?_
    refine va_get (D := (dC, dI)) (ci := 6) (v := .int (nI n)) (C := RX7) (T := TX7) (N := 4) hx hb hts inX7 hown hK hP 0 rfl rfl 2 (by decide) (hts _ mw_175) (fun _ h9 => h9) rfl dX7_put_34 ?_
    refine lv_iconst (v := 1) hx hb dX7_put_37 (by decide) ?_
    refine lv_iadd hx hb dX7_put_38 ?_
    refine zz_i (v := nI (n + 1)) (nI_add n 1) ?_
    refine va_put (D := (dC, dI)) (ci := 6) (v := .int (nI (n + 1))) (ty := .int) (C := RX7) (T := TX7) (N := 4) hx hb hts inX7 tyX7 tyX7_ok nmX7 hown hK hP hD hS 0 rfl rfl 2 (by decide) (hts _ mw_175) (fun _ h9 => h9) rfl (by decide +kernel) rfl rfl (Nat.le_of_ble_eq_true rfl) dX7_put_39 (fun H locs hP hD hS => ?_)
    have hP : va_P (dC, dI) classes [(oc6 r (.ref rx) (.ref ry) (nI (n + 1)) rg), (oa rx cI cap (upd X n px)), (oa ry cI cap (upd Y n py))] H := hP
    have hD : va_D A [(oc6 r (.ref rx) (.ref ry) (nI (n + 1)) rg), (oa rx cI cap (upd X n px)), (oa ry cI cap (upd Y n py))] := hD
    have hP9 := hP.sub (ws' := [(oc6 r (.ref rx) (.ref ry) (nI (n + 1)) rg), (oa rx cI cap (upd X n px)), (oa ry cI cap (upd Y n py))]) [0, 1, 2] rfl
    have hD9 := hD.sub (ws' := [(oc6 r (.ref rx) (.ref ry) (nI (n + 1)) rg), (oa rx cI cap (upd X n px)), (oa ry cI cap (upd Y n py))]) [0, 1, 2] (by decide) rfl
    rw [hQ9]
    exact W.vret hx hb hr (fun t ht hW => ⟨⟨rfl, by rw [ht]; exact hP9, hD9⟩, hS.F ht⟩) hS.2.2 dX7_put_42
set_option maxHeartbeats 4000000 in
set_option maxRecDepth 100000 in
theorem k_Row_clear (l : Launch) (dC : Nat → ClassId) (dI : Nat → Nat → Nat) (cI cZ cF : ClassId) (sz : Nat) (r : Nat) (rx : Nat) (ry : Nat) (n : Nat) (cap : Nat) (X : Nat → Int32) (Y : Nat → Int32) (rg : Int32) (rh : Int32) (hrh : rh = 0 ∨ rh = 1) : Met l yX7_clear (.code yX7_clear cX7_clear 2 none :: ws0) ({ frames := 0, cells := 0, slots := 0, locals := 0 } : Room) (va_Pc [.ref r, .int rh] (zPre (dC, dI) classes (zTy cI cZ cF) [(oc6 r (.ref rx) (.ref ry) (nI n) rg), (oa rx cI cap X), (oa ry cI cap Y)] sz zXN)) (zQ none (fun t => va_P (dC, dI) classes [(oc6 r (.ref rx) (.ref ry) (nI 0) rh), (oa rx cI cap X), (oa ry cI cap Y)] t.heap ∧ va_D (va_A [(oc6 r (.ref rx) (.ref ry) (nI n) rg), (oa rx cI cap X), (oa ry cI cap Y)] sz) [(oc6 r (.ref rx) (.ref ry) (nI 0) rh), (oa rx cI cap X), (oa ry cI cap Y)]) (va_A [(oc6 r (.ref rx) (.ref ry) (nI n) rg), (oa rx cI cap X), (oa ry cI cap Y)] sz)) 0 0 (va_A [(oc6 r (.ref rx) (.ref ry) (nI n) rg), (oa rx cI cap X), (oa ry cI cap Y)] sz) := by
  refine Met.ofW (cc := cX7_clear) (maxL := 2) (ret := none) (by decide) rfl ?_
  intro p e s m args below meth c s₁ B hml hv
  obtain ⟨rfl, hsz, hP, hK, hD0, hXN⟩ := hv
  have hx := B.exec
  have hb := B.bytes
  have hr := B.returns
  have hts0 := atoms_spec (ws := .code yX7_clear cX7_clear 2 none :: ws0) B.pre
  have hts : ∀ w9 ∈ ws0, w9.before ([.ref r, .int rh] : List Value).toArray s = true := fun w9 h => hts0 w9 (List.mem_cons_of_mem _ h)
  have hown : s.vm.findClass "ScaleShop$Row" = some m.cls := findClass_of_methodNamed B.named
  have hlocks := B.notSynchronized
  subst hsz
  have hD := hD0.self (sz := s.heap.size)
  clear hD0
  generalize hAe : va_A [(oc6 r (.ref rx) (.ref ry) (nI n) rg), (oa rx cI cap X), (oa ry cI cap Y)] s.heap.size = A at hD ⊢
  have hA : ∀ q : Nat, s.heap.size ≤ q → A q := fun q h => by rw [← hAe]; exact Or.inr h
  clear hAe
  have hS : va_S A s.heap s.heap [] := va_S.rf
  have hP : va_P (dC, dI) classes [(oc6 r (.ref rx) (.ref ry) (nI n) rg), (oa rx cI cap X), (oa ry cI cap Y)] s.heap := hP
  obtain ⟨Q9, hQ9⟩ : ∃ Q9 : State → Prop, Q9 = MQ below (zQ none (fun t => va_P (dC, dI) classes [(oc6 r (.ref rx) (.ref ry) (nI 0) rh), (oa rx cI cap X), (oa ry cI cap Y)] t.heap ∧ va_D A [(oc6 r (.ref rx) (.ref ry) (nI 0) rh), (oa rx cI cap X), (oa ry cI cap Y)]) A) ([.ref r, .int rh] : List Value).toArray s 0 0 A := ⟨_, rfl⟩
  rw [← hQ9]
  have hl := lv_entry ([.ref r, .int rh]) (n := 2) (Nat.le_of_ble_eq_true rfl)
  rw [lg_entry_eq]
  generalize (lg_sl ([.ref r, .int rh]) ++ List.replicate (2 - (lg_sl ([.ref r, .int rh])).length) Slot.unset).toArray = ls at hl ⊢
  have hl : lv_has ls 2 [(0, .ref r), (1, .int rh)] := hl
  refine lv_aload_n hx hb dX7_clear_0 rfl (lv_at hl 0 rfl) ?_
  refine lv_iconst (v := 0) hx hb dX7_clear_1 (by decide) ?_
  refine va_put (D := (dC, dI)) (ci := 6) (v := .int 0) (ty := .int) (C := RX7) (T := TX7) (N := 4) hx hb hts inX7 tyX7 tyX7_ok nmX7 hown hK hP hD hS 0 rfl rfl 2 (by decide) (hts _ mw_175) (fun _ h9 => h9) rfl (by decide +kernel) rfl rfl (Nat.le_of_ble_eq_true rfl) dX7_clear_2 (fun H locs hP hD hS => ?_)
  have hP : va_P (dC, dI) classes [(oc6 r (.ref rx) (.ref ry) 0 rg), (oa rx cI cap X), (oa ry cI cap Y)] H := hP
  have hD : va_D A [(oc6 r (.ref rx) (.ref ry) 0 rg), (oa rx cI cap X), (oa ry cI cap Y)] := hD
  refine lv_aload_n hx hb dX7_clear_5 rfl (lv_at hl 0 rfl) ?_
  refine lv_iload_n hx hb dX7_clear_6 rfl (lv_at hl 1 rfl) ?_
  refine va_put (D := (dC, dI)) (ci := 6) (v := .int rh) (ty := .boolean) (C := RX7) (T := TX7) (N := 4) hx hb hts inX7 tyX7 tyX7_ok nmX7 hown hK hP hD hS 0 rfl rfl 3 (by decide) (hts _ mw_183) (fun _ h9 => h9) rfl (by decide +kernel) (zb_nar hrh) (zb_fit hrh) (Nat.le_of_ble_eq_true rfl) dX7_clear_7 (fun H locs hP hD hS => ?_)
  have hP : va_P (dC, dI) classes [(oc6 r (.ref rx) (.ref ry) 0 rh), (oa rx cI cap X), (oa ry cI cap Y)] H := hP
  have hD : va_D A [(oc6 r (.ref rx) (.ref ry) 0 rh), (oa rx cI cap X), (oa ry cI cap Y)] := hD
  have hP9 := hP.sub (ws' := [(oc6 r (.ref rx) (.ref ry) 0 rh), (oa rx cI cap X), (oa ry cI cap Y)]) [0, 1, 2] rfl
  have hD9 := hD.sub (ws' := [(oc6 r (.ref rx) (.ref ry) 0 rh), (oa rx cI cap X), (oa ry cI cap Y)]) [0, 1, 2] (by decide) rfl
  have hE9 : ([(oc6 r (.ref rx) (.ref ry) 0 rh), (oa rx cI cap X), (oa ry cI cap Y)] : va_W) = [(oc6 r (.ref rx) (.ref ry) (nI 0) rh), (oa rx cI cap X), (oa ry cI cap Y)] := by rfl
  rw [hE9] at hP9 hD9
  rw [hQ9]
  exact W.vret hx hb hr (fun t ht hW => ⟨⟨rfl, by rw [ht]; exact hP9, hD9⟩, hS.F ht⟩) hS.2.2 dX7_clear_10
