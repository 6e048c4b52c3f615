set_option maxHeartbeats 4000000 in
set_option maxRecDepth 100000 in
theorem k_Step_takeBack (l : Launch) (dC : Nat → ClassId) (dI : Nat → Nat → Nat) (cI cZ cF : ClassId) (sz : Nat) (sp9 : Nat) (g1 : Int32) (g2 : Int32) (g3 : Int32) (md9 : Value) (ch9 : Value) (own : Nat → Nat) (fe : Nat → Nat) (cl : Nat → Nat) (nw : Nat → Nat) (lb : Nat → Nat) (la9 : Nat → Nat) (fN : Nat) (qs : List Nat) (rk : Nat → Int32) (wd : Nat → Int32) (tw : Nat → Int32) (pa : Nat → Int32) (pb : Nat → Int32) (L : List Nat) (f : Nat → va_E) (hF : FeA cI L f own fN fe nw cl (fun _ => .null) rk wd tw pa pb) (hch : chn L f own fe lb la9 ch9 qs) (hqn : ∀ q ∈ qs, q < fN) : Met l yX9_takeBack (.code yX9_takeBack cX9_takeBack 2 none :: ws0) ({ frames := 0, cells := 0, slots := 0, locals := 0 } : Room) (va_Pc [.ref sp9] (zPre (dC, dI) classes (zTy cI cZ cF) ([(oc11 sp9 g1 g2 g3 md9 ch9)] ++ va_pl L f) sz zXN)) (zQ none (fun t => ∃ (L1 : List Nat), ∃ (f1 : Nat → va_E), ∃ (nw1 : Nat → Nat), (FeA cI L1 f1 own fN fe nw1 cl (fun _ => .null) rk wd tw pa pb) ∧ (∀ q, (q ∈ qs → nw1 q = lb q) ∧ (q ∉ qs → nw1 q = nw q)) ∧ (kpT (fun g => ¬ g % 8 = 0) L f own L1 f1 own) ∧ va_P (dC, dI) classes ([(oc11 sp9 g1 g2 g3 md9 ch9)] ++ va_pl L1 f1) t.heap ∧ va_D (va_A ([(oc11 sp9 g1 g2 g3 md9 ch9)] ++ va_pl L f) sz) ([(oc11 sp9 g1 g2 g3 md9 ch9)] ++ va_pl L1 f1)) (va_A ([(oc11 sp9 g1 g2 g3 md9 ch9)] ++ va_pl L f) sz)) 0 0 (va_A ([(oc11 sp9 g1 g2 g3 md9 ch9)] ++ va_pl L f) sz) := by
  refine Met.ofW (cc := cX9_takeBack) (maxL := 2) (ret := none) (by decide) rfl ?_
  intro p e s m args below meth c s₁ B hml hv
  obtain ⟨rfl, hsz, hP, hK, hD0, hXN⟩ := hv
  have hx := B.exec
  have hb := B.bytes
  have hr := B.returns
  have hts0 := atoms_spec (ws := .code yX9_takeBack cX9_takeBack 2 none :: ws0) B.pre
  have hts : ∀ w9 ∈ ws0, w9.before ([.ref sp9] : List Value).toArray s = true := fun w9 h => hts0 w9 (List.mem_cons_of_mem _ h)
  have hown : s.vm.findClass "ScaleShop$Step" = some m.cls := findClass_of_methodNamed B.named
  have hlocks := B.notSynchronized
  subst hsz
  have hD := hD0.self (sz := s.heap.size)
  clear hD0
  generalize hAe : va_A ([(oc11 sp9 g1 g2 g3 md9 ch9)] ++ va_pl L f) s.heap.size = A at hD ⊢
  have hA : ∀ q : Nat, s.heap.size ≤ q → A q := fun q h => by rw [← hAe]; exact Or.inr h
  clear hAe
  have hS : va_S A s.heap s.heap [] := va_S.rf
  have hP : va_P (dC, dI) classes ([(oc11 sp9 g1 g2 g3 md9 ch9)] ++ va_pl L f) s.heap := hP
  obtain ⟨Q9, hQ9⟩ : ∃ Q9 : State → Prop, Q9 = MQ below (zQ none (fun t => ∃ (L1 : List Nat), ∃ (f1 : Nat → va_E), ∃ (nw1 : Nat → Nat), (FeA cI L1 f1 own fN fe nw1 cl (fun _ => .null) rk wd tw pa pb) ∧ (∀ q, (q ∈ qs → nw1 q = lb q) ∧ (q ∉ qs → nw1 q = nw q)) ∧ (kpT (fun g => ¬ g % 8 = 0) L f own L1 f1 own) ∧ va_P (dC, dI) classes ([(oc11 sp9 g1 g2 g3 md9 ch9)] ++ va_pl L1 f1) t.heap ∧ va_D A ([(oc11 sp9 g1 g2 g3 md9 ch9)] ++ va_pl L1 f1)) A) ([.ref sp9] : List Value).toArray s 0 0 A := ⟨_, rfl⟩
  rw [← hQ9]
  have hl := lv_entry ([.ref sp9]) (n := 2) (Nat.le_of_ble_eq_true rfl)
  rw [lg_entry_eq]
  generalize (lg_sl ([.ref sp9]) ++ List.replicate (2 - (lg_sl ([.ref sp9])).length) Slot.unset).toArray = ls at hl ⊢
  have hl : lv_has ls 2 [(0, .ref sp9)] := hl
  refine lv_aload_n hx hb dX9_takeBack_0 rfl (lv_at hl 0 rfl) ?_
  refine va_get (D := (dC, dI)) (ci := 11) (v := ch9) (C := RX9) (T := TX9) (N := 5) hx hb hts inX9 hown hK hP 0 rfl rfl 4 (by decide) (hts _ mw_771) (fun _ h9 => h9) rfl dX9_takeBack_1 ?_
  rcases chn_nc hch with hv7 | ⟨c7, hv7⟩
  · skip
    rw [hv7]
    refine lv_astore_nN (lv' := [(1, .null), (0, .ref sp9)]) hx hb dX9_takeBack_4 rfl hl (by decide) rfl (fun ls hl => ?_)
    have hl_5 : ∀ (n9 : Nat) (cv5 : Value) (L5 : List Nat) (f5 : Nat → va_E) (nw5 : Nat → Nat) (qs5 : List Nat) (H : Heap) (locs : List Loc) (ls : Array Slot), qs5.length < n9 → (FeA cI L5 f5 own fN fe nw5 cl (fun _ => .null) rk wd tw pa pb) → (chn L5 f5 own fe lb la9 cv5 qs5) → (∀ q ∈ qs5, q < fN) → (tkI qs qs5 lb nw nw5) → (kpT (fun g => ¬ g % 8 = 0) L f own L5 f5 own) → va_P (dC, dI) classes ([(oc11 sp9 g1 g2 g3 md9 ch9)] ++ va_pl L5 f5) H → va_D A ([(oc11 sp9 g1 g2 g3 md9 ch9)] ++ va_pl L5 f5) → va_S A s.heap H locs → lv_has ls 2 [(1, cv5), (0, .ref sp9)] → W p l e ((headSpec (.code yX9_takeBack cX9_takeBack 2 none :: ws0) ({ frames := 0, cells := 0, slots := 0, locals := 0 } : Room)).room) s m ([.ref sp9] : List Value).toArray below meth c H locs 0 0 Q9 (F0 m 5 ls []) := by
      intro n9
      induction n9 with
      | zero => intro cv5 L5 f5 nw5 qs5 H locs ls hm; exact absurd hm (Nat.not_lt_zero _)
      | succ n9 ih_5 =>
        intro cv5 L5 f5 nw5 qs5 H locs ls hm hF5 hc5 hqn5 ht5 hk5 hP hD hS hl
        rcases chn_ca hc5 with ⟨hv5, hq5⟩ | ⟨c5, q5, nx5, r9, hv5, hq5, hcc5, hcr5⟩
        · skip
          subst hv5
          refine lv_aload_nN hx hb dX9_takeBack_5 rfl (lv_at hl 0 rfl) ?_
          refine lv_ifnullN (tgt := 28) hx hb dX9_takeBack_6 (by decide) ?_
          subst hq5
          have hte := tkI_e ht5
          have hP9 := hP.part (cx := [(oc11 sp9 g1 g2 g3 md9 ch9)]) [0] rfl
          have hD9 := hD.part (cx := [(oc11 sp9 g1 g2 g3 md9 ch9)]) [0] (by decide) rfl
          rw [hQ9]
          exact W.vret hx hb hr (fun t ht hW => ⟨⟨rfl, L5, f5, nw5, (hF5), (hte), (hk5), by rw [ht]; exact hP9, hD9⟩, hS.F ht⟩) hS.2.2 dX9_takeBack_28
        · skip
          subst hv5
          subst hq5
          obtain ⟨lo5, hcf5⟩ := FeA_c hF5 (hqn5 q5 (List.mem_cons_self ..))
          have hc9_1 : inPl L5 f5 [(oc12 c5 (.ref (fe q5)) (.ref (lb q5)) (.ref (la9 q5)) nx5), (oc1 (fe q5) (rk q5) (wd q5) (tw q5) (pa q5) (pb q5) (.ref lo5) (.ref (nw5 q5)) .null)] := ⟨ce_pl hcc5, ce_pl hcf5, trivial⟩
          have hD0_1 := hD
          obtain ⟨hP, hD⟩ := pl_out hP hD [(oc12 c5 (.ref (fe q5)) (.ref (lb q5)) (.ref (la9 q5)) nx5), (oc1 (fe q5) (rk q5) (wd q5) (tw q5) (pa q5) (pb q5) (.ref lo5) (.ref (nw5 q5)) .null)] hc9_1 (pw2 (cl_ne hcc5.2.1 hcf5.2.1 (by decide)))
          generalize hT_1 : outPl L5 [(oc12 c5 (.ref (fe q5)) (.ref (lb q5)) (.ref (la9 q5)) nx5), (oc1 (fe q5) (rk q5) (wd q5) (tw q5) (pa q5) (pb q5) (.ref lo5) (.ref (nw5 q5)) .null)] = T_1 at hP hD
          have hP : va_P (dC, dI) classes ([(oc11 sp9 g1 g2 g3 md9 ch9), (oc12 c5 (.ref (fe q5)) (.ref (lb q5)) (.ref (la9 q5)) nx5), (oc1 (fe q5) (rk q5) (wd q5) (tw q5) (pa q5) (pb q5) (.ref lo5) (.ref (nw5 q5)) .null)] ++ va_pl T_1 f5) H := hP
          have hD : va_D A ([(oc11 sp9 g1 g2 g3 md9 ch9), (oc12 c5 (.ref (fe q5)) (.ref (lb q5)) (.ref (la9 q5)) nx5), (oc1 (fe q5) (rk q5) (wd q5) (tw q5) (pa q5) (pb q5) (.ref lo5) (.ref (nw5 q5)) .null)] ++ va_pl T_1 f5) := hD
          refine lv_aload_n hx hb dX9_takeBack_5 rfl (lv_at hl 0 rfl) ?_
          refine lv_ifnull hx hb dX9_takeBack_6 ?_
          refine lv_aload_n hx hb dX9_takeBack_9 rfl (lv_at hl 0 rfl) ?_
          refine va_get (D := (dC, dI)) (ci := 12) (v := .ref (fe q5)) (C := RX1) (T := TX1) (N := 4) hx hb hts inX1 hown hK hP 1 rfl rfl 0 (by decide) (hts _ mw_791) (fun _ h9 => h9) rfl dX9_takeBack_10 ?_
          refine lv_aload_n hx hb dX9_takeBack_13 rfl (lv_at hl 0 rfl) ?_
          refine va_get (D := (dC, dI)) (ci := 12) (v := .ref (lb q5)) (C := RX1) (T := TX1) (N := 4) hx hb hts inX1 hown hK hP 1 rfl rfl 1 (by decide) (hts _ mw_793) (fun _ h9 => h9) rfl dX9_takeBack_14 ?_
          refine va_put (D := (dC, dI)) (ci := 1) (v := .ref (lb q5)) (ty := .object "ScaleShop$Look") (C := RX2) (T := TX2) (N := 8) hx hb hts inX2 tyX2 tyX2_ok nmX2 hown hK hP hD hS 2 rfl rfl 6 (by decide) (hts _ mw_431) (fun _ h9 => h9) rfl (by decide +kernel) rfl rfl (Nat.le_of_ble_eq_true rfl) dX9_takeBack_17 (fun H locs hP hD hS => ?_)
          have hP : va_P (dC, dI) classes ([(oc11 sp9 g1 g2 g3 md9 ch9), (oc12 c5 (.ref (fe q5)) (.ref (lb q5)) (.ref (la9 q5)) nx5), (oc1 (fe q5) (rk q5) (wd q5) (tw q5) (pa q5) (pb q5) (.ref lo5) (.ref (lb q5)) .null)] ++ va_pl T_1 f5) H := hP
          have hD : va_D A ([(oc11 sp9 g1 g2 g3 md9 ch9), (oc12 c5 (.ref (fe q5)) (.ref (lb q5)) (.ref (la9 q5)) nx5), (oc1 (fe q5) (rk q5) (wd q5) (tw q5) (pa q5) (pb q5) (.ref lo5) (.ref (lb q5)) .null)] ++ va_pl T_1 f5) := hD
          refine lv_aload_n hx hb dX9_takeBack_20 rfl (lv_at hl 0 rfl) ?_
          refine va_get (D := (dC, dI)) (ci := 12) (v := nx5) (C := RX1) (T := TX1) (N := 4) hx hb hts inX1 hown hK hP 1 rfl rfl 3 (by decide) (hts _ mw_797) (fun _ h9 => h9) rfl dX9_takeBack_21 ?_
          rcases chn_nc hcr5 with hv6 | ⟨c6, hv6⟩
          · skip
            rw [hv6]
            refine lv_astore_nN (lv' := [(1, .null), (0, .ref sp9)]) hx hb dX9_takeBack_24 rfl hl (by decide) rfl (fun ls hl => ?_)
            have hP : va_P (dC, dI) classes (([(oc11 sp9 g1 g2 g3 md9 ch9)] ++ [(oc12 c5 (.ref (fe q5)) (.ref (lb q5)) (.ref (la9 q5)) nx5), (oc1 (fe q5) (rk q5) (wd q5) (tw q5) (pa q5) (pb q5) (.ref lo5) (.ref (lb q5)) .null)]) ++ va_pl T_1 f5) H := hP
            have hD : va_D A (([(oc11 sp9 g1 g2 g3 md9 ch9)] ++ [(oc12 c5 (.ref (fe q5)) (.ref (lb q5)) (.ref (la9 q5)) nx5), (oc1 (fe q5) (rk q5) (wd q5) (tw q5) (pa q5) (pb q5) (.ref lo5) (.ref (lb q5)) .null)]) ++ va_pl T_1 f5) := hD
            obtain ⟨Lp1, fp1, hP, hD, hpin_1⟩ := pl_pin (cs := [(oc12 c5 (.ref (fe q5)) (.ref (lb q5)) (.ref (la9 q5)) nx5), (oc1 (fe q5) (rk q5) (wd q5) (tw q5) (pa q5) (pb q5) (.ref lo5) (.ref (nw5 q5)) .null)]) (old := [(oc12 c5 (.ref (fe q5)) (.ref (lb q5)) (.ref (la9 q5)) nx5), (oc1 (fe q5) (rk q5) (wd q5) (tw q5) (pa q5) (pb q5) (.ref lo5) (.ref (lb q5)) .null)]) (new := []) (cs1 := [(oc12 c5 (.ref (fe q5)) (.ref (lb q5)) (.ref (la9 q5)) nx5), (oc1 (fe q5) (rk q5) (wd q5) (tw q5) (pa q5) (pb q5) (.ref lo5) (.ref (lb q5)) .null)]) (X := [(oc11 sp9 g1 g2 g3 md9 ch9)]) (L := L5) (f := f5) rfl rfl (by rw [hT_1]; exact hP) (by rw [hT_1]; exact hD)
            obtain ⟨hfr_1, hkp_1, hce_1, hsx_1, hpw_1⟩ := id hpin_1
            have hks5 := hkp_1 own own (fun g => ¬ g % 8 = 0) (fun _ _ => rfl) ⟨fun _ _ => hcc5.2.1, fun _ hp => absurd (show own (fe q5) % 8 = 0 by rw [hcf5.2.2]; omega) hp, trivial⟩
            have hkn5 := kpT_tr hk5 hks5
            have hkf5 := hkp_1 own own (fun g => g ≠ 8 * q5) (fun _ _ => rfl) ⟨fun _ _ => hcc5.2.1, fun _ hp => absurd hcf5.2.2 hp, trivial⟩
            have hFn5 := tk_F hF5 hkf5 hcf5 (hce_1 own 1 _ _ (8 * q5) rfl hcf5.2.2)
            have hcn5 := chn_kp hks5 (by omega) hcr5
            refine lv_goto (tgt := 5) hx hb dX9_takeBack_25 (by decide) ?_
            exact ih_5 (.null) Lp1 fp1 (upN nw5 q5 (lb q5)) r9 H locs ls (by simp only [List.length_cons] at hm; omega) (hFn5) (by rw [hv6] at hcn5; exact hcn5) (fun q hq => hqn5 q (List.mem_cons_of_mem _ hq)) (tkI_s ht5) (hkn5) hP hD hS (lv_sub hl [0, 1] rfl)
          · skip
            rw [hv6]
            refine lv_astore_n (lv' := [(1, .ref c6), (0, .ref sp9)]) hx hb dX9_takeBack_24 rfl hl (by decide) rfl (fun ls hl => ?_)
            have hP : va_P (dC, dI) classes (([(oc11 sp9 g1 g2 g3 md9 ch9)] ++ [(oc12 c5 (.ref (fe q5)) (.ref (lb q5)) (.ref (la9 q5)) nx5), (oc1 (fe q5) (rk q5) (wd q5) (tw q5) (pa q5) (pb q5) (.ref lo5) (.ref (lb q5)) .null)]) ++ va_pl T_1 f5) H := hP
            have hD : va_D A (([(oc11 sp9 g1 g2 g3 md9 ch9)] ++ [(oc12 c5 (.ref (fe q5)) (.ref (lb q5)) (.ref (la9 q5)) nx5), (oc1 (fe q5) (rk q5) (wd q5) (tw q5) (pa q5) (pb q5) (.ref lo5) (.ref (lb q5)) .null)]) ++ va_pl T_1 f5) := hD
            obtain ⟨Lp1, fp1, hP, hD, hpin_1⟩ := pl_pin (cs := [(oc12 c5 (.ref (fe q5)) (.ref (lb q5)) (.ref (la9 q5)) nx5), (oc1 (fe q5) (rk q5) (wd q5) (tw q5) (pa q5) (pb q5) (.ref lo5) (.ref (nw5 q5)) .null)]) (old := [(oc12 c5 (.ref (fe q5)) (.ref (lb q5)) (.ref (la9 q5)) nx5), (oc1 (fe q5) (rk q5) (wd q5) (tw q5) (pa q5) (pb q5) (.ref lo5) (.ref (lb q5)) .null)]) (new := []) (cs1 := [(oc12 c5 (.ref (fe q5)) (.ref (lb q5)) (.ref (la9 q5)) nx5), (oc1 (fe q5) (rk q5) (wd q5) (tw q5) (pa q5) (pb q5) (.ref lo5) (.ref (lb q5)) .null)]) (X := [(oc11 sp9 g1 g2 g3 md9 ch9)]) (L := L5) (f := f5) rfl rfl (by rw [hT_1]; exact hP) (by rw [hT_1]; exact hD)
            obtain ⟨hfr_1, hkp_1, hce_1, hsx_1, hpw_1⟩ := id hpin_1
            have hks5 := hkp_1 own own (fun g => ¬ g % 8 = 0) (fun _ _ => rfl) ⟨fun _ _ => hcc5.2.1, fun _ hp => absurd (show own (fe q5) % 8 = 0 by rw [hcf5.2.2]; omega) hp, trivial⟩
            have hkn5 := kpT_tr hk5 hks5
            have hkf5 := hkp_1 own own (fun g => g ≠ 8 * q5) (fun _ _ => rfl) ⟨fun _ _ => hcc5.2.1, fun _ hp => absurd hcf5.2.2 hp, trivial⟩
            have hFn5 := tk_F hF5 hkf5 hcf5 (hce_1 own 1 _ _ (8 * q5) rfl hcf5.2.2)
            have hcn5 := chn_kp hks5 (by omega) hcr5
            refine lv_goto (tgt := 5) hx hb dX9_takeBack_25 (by decide) ?_
            exact ih_5 (.ref c6) Lp1 fp1 (upN nw5 q5 (lb q5)) r9 H locs ls (by simp only [List.length_cons] at hm; omega) (hFn5) (by rw [hv6] at hcn5; exact hcn5) (fun q hq => hqn5 q (List.mem_cons_of_mem _ hq)) (tkI_s ht5) (hkn5) hP hD hS (lv_sub hl [0, 1] rfl)
    exact hl_5 _ (.null) L f nw qs s.heap [] ls (Nat.lt_succ_self _) (hF) (by rw [hv7] at hch; exact hch) (hqn) (tkI_0 _ _ _) (kpT_rf) hP hD hS (lv_sub hl [0, 1] rfl)
  · skip
    rw [hv7]
    refine lv_astore_n (lv' := [(1, .ref c7), (0, .ref sp9)]) hx hb dX9_takeBack_4 rfl hl (by decide) rfl (fun ls hl => ?_)
    have hl_5 : ∀ (n9 : Nat) (cv5 : Value) (L5 : List Nat) (f5 : Nat → va_E) (nw5 : Nat → Nat) (qs5 : List Nat) (H : Heap) (locs : List Loc) (ls : Array Slot), qs5.length < n9 → (FeA cI L5 f5 own fN fe nw5 cl (fun _ => .null) rk wd tw pa pb) → (chn L5 f5 own fe lb la9 cv5 qs5) → (∀ q ∈ qs5, q < fN) → (tkI qs qs5 lb nw nw5) → (kpT (fun g => ¬ g % 8 = 0) L f own L5 f5 own) → va_P (dC, dI) classes ([(oc11 sp9 g1 g2 g3 md9 ch9)] ++ va_pl L5 f5) H → va_D A ([(oc11 sp9 g1 g2 g3 md9 ch9)] ++ va_pl L5 f5) → va_S A s.heap H locs → lv_has ls 2 [(1, cv5), (0, .ref sp9)] → W p l e ((headSpec (.code yX9_takeBack cX9_takeBack 2 none :: ws0) ({ frames := 0, cells := 0, slots := 0, locals := 0 } : Room)).room) s m ([.ref sp9] : List Value).toArray below meth c H locs 0 0 Q9 (F0 m 5 ls []) := by
      intro n9
      induction n9 with
      | zero => intro cv5 L5 f5 nw5 qs5 H locs ls hm; exact absurd hm (Nat.not_lt_zero _)
      | succ n9 ih_5 =>
        intro cv5 L5 f5 nw5 qs5 H locs ls hm hF5 hc5 hqn5 ht5 hk5 hP hD hS hl
        rcases chn_ca hc5 with ⟨hv5, hq5⟩ | ⟨c5, q5, nx5, r9, hv5, hq5, hcc5, hcr5⟩
        · skip
          subst hv5
          refine lv_aload_nN hx hb dX9_takeBack_5 rfl (lv_at hl 0 rfl) ?_
          refine lv_ifnullN (tgt := 28) hx hb dX9_takeBack_6 (by decide) ?_
          subst hq5
          have hte := tkI_e ht5
          have hP9 := hP.part (cx := [(oc11 sp9 g1 g2 g3 md9 ch9)]) [0] rfl
          have hD9 := hD.part (cx := [(oc11 sp9 g1 g2 g3 md9 ch9)]) [0] (by decide) rfl
          rw [hQ9]
          exact W.vret hx hb hr (fun t ht hW => ⟨⟨rfl, L5, f5, nw5, (hF5), (hte), (hk5), by rw [ht]; exact hP9, hD9⟩, hS.F ht⟩) hS.2.2 dX9_takeBack_28
        · skip
          subst hv5
          subst hq5
          obtain ⟨lo5, hcf5⟩ := FeA_c hF5 (hqn5 q5 (List.mem_cons_self ..))
          have hc9_1 : inPl L5 f5 [(oc12 c5 (.ref (fe q5)) (.ref (lb q5)) (.ref (la9 q5)) nx5), (oc1 (fe q5) (rk q5) (wd q5) (tw q5) (pa q5) (pb q5) (.ref lo5) (.ref (nw5 q5)) .null)] := ⟨ce_pl hcc5, ce_pl hcf5, trivial⟩
          have hD0_1 := hD
          obtain ⟨hP, hD⟩ := pl_out hP hD [(oc12 c5 (.ref (fe q5)) (.ref (lb q5)) (.ref (la9 q5)) nx5), (oc1 (fe q5) (rk q5) (wd q5) (tw q5) (pa q5) (pb q5) (.ref lo5) (.ref (nw5 q5)) .null)] hc9_1 (pw2 (cl_ne hcc5.2.1 hcf5.2.1 (by decide)))
          generalize hT_1 : outPl L5 [(oc12 c5 (.ref (fe q5)) (.ref (lb q5)) (.ref (la9 q5)) nx5), (oc1 (fe q5) (rk q5) (wd q5) (tw q5) (pa q5) (pb q5) (.ref lo5) (.ref (nw5 q5)) .null)] = T_1 at hP hD
          have hP : va_P (dC, dI) classes ([(oc11 sp9 g1 g2 g3 md9 ch9), (oc12 c5 (.ref (fe q5)) (.ref (lb q5)) (.ref (la9 q5)) nx5), (oc1 (fe q5) (rk q5) (wd q5) (tw q5) (pa q5) (pb q5) (.ref lo5) (.ref (nw5 q5)) .null)] ++ va_pl T_1 f5) H := hP
          have hD : va_D A ([(oc11 sp9 g1 g2 g3 md9 ch9), (oc12 c5 (.ref (fe q5)) (.ref (lb q5)) (.ref (la9 q5)) nx5), (oc1 (fe q5) (rk q5) (wd q5) (tw q5) (pa q5) (pb q5) (.ref lo5) (.ref (nw5 q5)) .null)] ++ va_pl T_1 f5) := hD
          refine lv_aload_n hx hb dX9_takeBack_5 rfl (lv_at hl 0 rfl) ?_
          refine lv_ifnull hx hb dX9_takeBack_6 ?_
          refine lv_aload_n hx hb dX9_takeBack_9 rfl (lv_at hl 0 rfl) ?_
          refine va_get (D := (dC, dI)) (ci := 12) (v := .ref (fe q5)) (C := RX1) (T := TX1) (N := 4) hx hb hts inX1 hown hK hP 1 rfl rfl 0 (by decide) (hts _ mw_791) (fun _ h9 => h9) rfl dX9_takeBack_10 ?_
          refine lv_aload_n hx hb dX9_takeBack_13 rfl (lv_at hl 0 rfl) ?_
          refine va_get (D := (dC, dI)) (ci := 12) (v := .ref (lb q5)) (C := RX1) (T := TX1) (N := 4) hx hb hts inX1 hown hK hP 1 rfl rfl 1 (by decide) (hts _ mw_793) (fun _ h9 => h9) rfl dX9_takeBack_14 ?_
          refine va_put (D := (dC, dI)) (ci := 1) (v := .ref (lb q5)) (ty := .object "ScaleShop$Look") (C := RX2) (T := TX2) (N := 8) hx hb hts inX2 tyX2 tyX2_ok nmX2 hown hK hP hD hS 2 rfl rfl 6 (by decide) (hts _ mw_431) (fun _ h9 => h9) rfl (by decide +kernel) rfl rfl (Nat.le_of_ble_eq_true rfl) dX9_takeBack_17 (fun H locs hP hD hS => ?_)
          have hP : va_P (dC, dI) classes ([(oc11 sp9 g1 g2 g3 md9 ch9), (oc12 c5 (.ref (fe q5)) (.ref (lb q5)) (.ref (la9 q5)) nx5), (oc1 (fe q5) (rk q5) (wd q5) (tw q5) (pa q5) (pb q5) (.ref lo5) (.ref (lb q5)) .null)] ++ va_pl T_1 f5) H := hP
          have hD : va_D A ([(oc11 sp9 g1 g2 g3 md9 ch9), (oc12 c5 (.ref (fe q5)) (.ref (lb q5)) (.ref (la9 q5)) nx5), (oc1 (fe q5) (rk q5) (wd q5) (tw q5) (pa q5) (pb q5) (.ref lo5) (.ref (lb q5)) .null)] ++ va_pl T_1 f5) := hD
          refine lv_aload_n hx hb dX9_takeBack_20 rfl (lv_at hl 0 rfl) ?_
          refine va_get (D := (dC, dI)) (ci := 12) (v := nx5) (C := RX1) (T := TX1) (N := 4) hx hb hts inX1 hown hK hP 1 rfl rfl 3 (by decide) (hts _ mw_797) (fun _ h9 => h9) rfl dX9_takeBack_21 ?_
          rcases chn_nc hcr5 with hv6 | ⟨c6, hv6⟩
          · skip
            rw [hv6]
            refine lv_astore_nN (lv' := [(1, .null), (0, .ref sp9)]) hx hb dX9_takeBack_24 rfl hl (by decide) rfl (fun ls hl => ?_)
            have hP : va_P (dC, dI) classes (([(oc11 sp9 g1 g2 g3 md9 ch9)] ++ [(oc12 c5 (.ref (fe q5)) (.ref (lb q5)) (.ref (la9 q5)) nx5), (oc1 (fe q5) (rk q5) (wd q5) (tw q5) (pa q5) (pb q5) (.ref lo5) (.ref (lb q5)) .null)]) ++ va_pl T_1 f5) H := hP
            have hD : va_D A (([(oc11 sp9 g1 g2 g3 md9 ch9)] ++ [(oc12 c5 (.ref (fe q5)) (.ref (lb q5)) (.ref (la9 q5)) nx5), (oc1 (fe q5) (rk q5) (wd q5) (tw q5) (pa q5) (pb q5) (.ref lo5) (.ref (lb q5)) .null)]) ++ va_pl T_1 f5) := hD
            obtain ⟨Lp1, fp1, hP, hD, hpin_1⟩ := pl_pin (cs := [(oc12 c5 (.ref (fe q5)) (.ref (lb q5)) (.ref (la9 q5)) nx5), (oc1 (fe q5) (rk q5) (wd q5) (tw q5) (pa q5) (pb q5) (.ref lo5) (.ref (nw5 q5)) .null)]) (old := [(oc12 c5 (.ref (fe q5)) (.ref (lb q5)) (.ref (la9 q5)) nx5), (oc1 (fe q5) (rk q5) (wd q5) (tw q5) (pa q5) (pb q5) (.ref lo5) (.ref (lb q5)) .null)]) (new := []) (cs1 := [(oc12 c5 (.ref (fe q5)) (.ref (lb q5)) (.ref (la9 q5)) nx5), (oc1 (fe q5) (rk q5) (wd q5) (tw q5) (pa q5) (pb q5) (.ref lo5) (.ref (lb q5)) .null)]) (X := [(oc11 sp9 g1 g2 g3 md9 ch9)]) (L := L5) (f := f5) rfl rfl (by rw [hT_1]; exact hP) (by rw [hT_1]; exact hD)
            obtain ⟨hfr_1, hkp_1, hce_1, hsx_1, hpw_1⟩ := id hpin_1
            have hks5 := hkp_1 own own (fun g => ¬ g % 8 = 0) (fun _ _ => rfl) ⟨fun _ _ => hcc5.2.1, fun _ hp => absurd (show own (fe q5) % 8 = 0 by rw [hcf5.2.2]; omega) hp, trivial⟩
            have hkn5 := kpT_tr hk5 hks5
            have hkf5 := hkp_1 own own (fun g => g ≠ 8 * q5) (fun _ _ => rfl) ⟨fun _ _ => hcc5.2.1, fun _ hp => absurd hcf5.2.2 hp, trivial⟩
            have hFn5 := tk_F hF5 hkf5 hcf5 (hce_1 own 1 _ _ (8 * q5) rfl hcf5.2.2)
            have hcn5 := chn_kp hks5 (by omega) hcr5
            refine lv_goto (tgt := 5) hx hb dX9_takeBack_25 (by decide) ?_
            exact ih_5 (.null) Lp1 fp1 (upN nw5 q5 (lb q5)) r9 H locs ls (by simp only [List.length_cons] at hm; omega) (hFn5) (by rw [hv6] at hcn5; exact hcn5) (fun q hq => hqn5 q (List.mem_cons_of_mem _ hq)) (tkI_s ht5) (hkn5) hP hD hS (lv_sub hl [0, 1] rfl)
          · skip
            rw [hv6]
            refine lv_astore_n (lv' := [(1, .ref c6), (0, .ref sp9)]) hx hb dX9_takeBack_24 rfl hl (by decide) rfl (fun ls hl => ?_)
            have hP : va_P (dC, dI) classes (([(oc11 sp9 g1 g2 g3 md9 ch9)] ++ [(oc12 c5 (.ref (fe q5)) (.ref (lb q5)) (.ref (la9 q5)) nx5), (oc1 (fe q5) (rk q5) (wd q5) (tw q5) (pa q5) (pb q5) (.ref lo5) (.ref (lb q5)) .null)]) ++ va_pl T_1 f5) H := hP
            have hD : va_D A (([(oc11 sp9 g1 g2 g3 md9 ch9)] ++ [(oc12 c5 (.ref (fe q5)) (.ref (lb q5)) (.ref (la9 q5)) nx5), (oc1 (fe q5) (rk q5) (wd q5) (tw q5) (pa q5) (pb q5) (.ref lo5) (.ref (lb q5)) .null)]) ++ va_pl T_1 f5) := hD
            obtain ⟨Lp1, fp1, hP, hD, hpin_1⟩ := pl_pin (cs := [(oc12 c5 (.ref (fe q5)) (.ref (lb q5)) (.ref (la9 q5)) nx5), (oc1 (fe q5) (rk q5) (wd q5) (tw q5) (pa q5) (pb q5) (.ref lo5) (.ref (nw5 q5)) .null)]) (old := [(oc12 c5 (.ref (fe q5)) (.ref (lb q5)) (.ref (la9 q5)) nx5), (oc1 (fe q5) (rk q5) (wd q5) (tw q5) (pa q5) (pb q5) (.ref lo5) (.ref (lb q5)) .null)]) (new := []) (cs1 := [(oc12 c5 (.ref (fe q5)) (.ref (lb q5)) (.ref (la9 q5)) nx5), (oc1 (fe q5) (rk q5) (wd q5) (tw q5) (pa q5) (pb q5) (.ref lo5) (.ref (lb q5)) .null)]) (X := [(oc11 sp9 g1 g2 g3 md9 ch9)]) (L := L5) (f := f5) rfl rfl (by rw [hT_1]; exact hP) (by rw [hT_1]; exact hD)
            obtain ⟨hfr_1, hkp_1, hce_1, hsx_1, hpw_1⟩ := id hpin_1
            have hks5 := hkp_1 own own (fun g => ¬ g % 8 = 0) (fun _ _ => rfl) ⟨fun _ _ => hcc5.2.1, fun _ hp => absurd (show own (fe q5) % 8 = 0 by rw [hcf5.2.2]; omega) hp, trivial⟩
            have hkn5 := kpT_tr hk5 hks5
            have hkf5 := hkp_1 own own (fun g => g ≠ 8 * q5) (fun _ _ => rfl) ⟨fun _ _ => hcc5.2.1, fun _ hp => absurd hcf5.2.2 hp, trivial⟩
            have hFn5 := tk_F hF5 hkf5 hcf5 (hce_1 own 1 _ _ (8 * q5) rfl hcf5.2.2)
            have hcn5 := chn_kp hks5 (by omega) hcr5
            refine lv_goto (tgt := 5) hx hb dX9_takeBack_25 (by decide) ?_
            exact ih_5 (.ref c6) Lp1 fp1 (upN nw5 q5 (lb q5)) r9 H locs ls (by simp only [List.length_cons] at hm; omega) (hFn5) (by rw [hv6] at hcn5; exact hcn5) (fun q hq => hqn5 q (List.mem_cons_of_mem _ hq)) (tkI_s ht5) (hkn5) hP hD hS (lv_sub hl [0, 1] rfl)
    exact hl_5 _ (.ref c7) L f nw qs s.heap [] ls (Nat.lt_succ_self _) (hF) (by rw [hv7] at hch; exact hch) (hqn) (tkI_0 _ _ _) (kpT_rf) hP hD hS (lv_sub hl [0, 1] rfl)
set_option maxHeartbeats 4000000 in
set_option maxRecDepth 100000 in
theorem k_Step_repeat (l : Launch) (dC : Nat → ClassId) (dI : Nat → Nat → Nat) (cI cZ cF : ClassId) (sz : Nat) (sp9 : Nat) (g1 : Int32) (g2 : Int32) (g3 : Int32) (md9 : Value) (ch9 : Value) (own : Nat → Nat) (fe : Nat → Nat) (cl : Nat → Nat) (nw : Nat → Nat) (lb : Nat → Nat) (la9 : Nat → Nat) (fN : Nat) (qs : List Nat) (rk : Nat → Int32) (wd : Nat → Int32) (tw : Nat → Int32) (pa : Nat → Int32) (pb : Nat → Int32) (L : List Nat) (f : Nat → va_E) (hF : FeA cI L f own fN fe nw cl (fun _ => .null) rk wd tw pa pb) (hch : chn L f own fe lb la9 ch9 qs) (hqn : ∀ q ∈ qs, q < fN) : Met l yX9_repeat (.code yX9_repeat cX9_repeat 2 none :: ws0) ({ frames := 0, cells := 0, slots := 0, locals := 0 } : Room) (va_Pc [.ref sp9] (zPre (dC, dI) classes (zTy cI cZ cF) ([(oc11 sp9 g1 g2 g3 md9 ch9)] ++ va_pl L f) sz zXN)) (zQ none (fun t => ∃ (L1 : List Nat), ∃ (f1 : Nat → va_E), ∃ (nw1 : Nat → Nat), (FeA cI L1 f1 own fN fe nw1 cl (fun _ => .null) rk wd tw pa pb) ∧ (∀ q, (q ∈ qs → nw1 q = la9 q) ∧ (q ∉ qs → nw1 q = nw q)) ∧ (kpT (fun g => ¬ g % 8 = 0) L f own L1 f1 own) ∧ va_P (dC, dI) classes ([(oc11 sp9 g1 g2 g3 md9 ch9)] ++ va_pl L1 f1) t.heap ∧ va_D (va_A ([(oc11 sp9 g1 g2 g3 md9 ch9)] ++ va_pl L f) sz) ([(oc11 sp9 g1 g2 g3 md9 ch9)] ++ va_pl L1 f1)) (va_A ([(oc11 sp9 g1 g2 g3 md9 ch9)] ++ va_pl L f) sz)) 0 0 (va_A ([(oc11 sp9 g1 g2 g3 md9 ch9)] ++ va_pl L f) sz) := by
  refine Met.ofW (cc := cX9_repeat) (maxL := 2) (ret := none) (by decide) rfl ?_
  intro p e s m args below meth c s₁ B hml hv
  obtain ⟨rfl, hsz, hP, hK, hD0, hXN⟩ := hv
  have hx := B.exec
  have hb := B.bytes
  have hr := B.returns
  have hts0 := atoms_spec (ws := .code yX9_repeat cX9_repeat 2 none :: ws0) B.pre
  have hts : ∀ w9 ∈ ws0, w9.before ([.ref sp9] : List Value).toArray s = true := fun w9 h => hts0 w9 (List.mem_cons_of_mem _ h)
  have hown : s.vm.findClass "ScaleShop$Step" = some m.cls := findClass_of_methodNamed B.named
  have hlocks := B.notSynchronized
  subst hsz
  have hD := hD0.self (sz := s.heap.size)
  clear hD0
  generalize hAe : va_A ([(oc11 sp9 g1 g2 g3 md9 ch9)] ++ va_pl L f) s.heap.size = A at hD ⊢
  have hA : ∀ q : Nat, s.heap.size ≤ q → A q := fun q h => by rw [← hAe]; exact Or.inr h
  clear hAe
  have hS : va_S A s.heap s.heap [] := va_S.rf
  have hP : va_P (dC, dI) classes ([(oc11 sp9 g1 g2 g3 md9 ch9)] ++ va_pl L f) s.heap := hP
  obtain ⟨Q9, hQ9⟩ : ∃ Q9 : State → Prop, Q9 = MQ below (zQ none (fun t => ∃ (L1 : List Nat), ∃ (f1 : Nat → va_E), ∃ (nw1 : Nat → Nat), (FeA cI L1 f1 own fN fe nw1 cl (fun _ => .null) rk wd tw pa pb) ∧ (∀ q, (q ∈ qs → nw1 q = la9 q) ∧ (q ∉ qs → nw1 q = nw q)) ∧ (kpT (fun g => ¬ g % 8 = 0) L f own L1 f1 own) ∧ va_P (dC, dI) classes ([(oc11 sp9 g1 g2 g3 md9 ch9)] ++ va_pl L1 f1) t.heap ∧ va_D A ([(oc11 sp9 g1 g2 g3 md9 ch9)] ++ va_pl L1 f1)) A) ([.ref sp9] : List Value).toArray s 0 0 A := ⟨_, rfl⟩
  rw [← hQ9]
  have hl := lv_entry ([.ref sp9]) (n := 2) (Nat.le_of_ble_eq_true rfl)
  rw [lg_entry_eq]
  generalize (lg_sl ([.ref sp9]) ++ List.replicate (2 - (lg_sl ([.ref sp9])).length) Slot.unset).toArray = ls at hl ⊢
  have hl : lv_has ls 2 [(0, .ref sp9)] := hl
  refine lv_aload_n hx hb dX9_repeat_0 rfl (lv_at hl 0 rfl) ?_
  refine va_get (D := (dC, dI)) (ci := 11) (v := ch9) (C := RX9) (T := TX9) (N := 5) hx hb hts inX9 hown hK hP 0 rfl rfl 4 (by decide) (hts _ mw_771) (fun _ h9 => h9) rfl dX9_repeat_1 ?_
  rcases chn_nc hch with hv7 | ⟨c7, hv7⟩
  · skip
    rw [hv7]
    refine lv_astore_nN (lv' := [(1, .null), (0, .ref sp9)]) hx hb dX9_repeat_4 rfl hl (by decide) rfl (fun ls hl => ?_)
    have hl_5 : ∀ (n9 : Nat) (cv5 : Value) (L5 : List Nat) (f5 : Nat → va_E) (nw5 : Nat → Nat) (qs5 : List Nat) (H : Heap) (locs : List Loc) (ls : Array Slot), qs5.length < n9 → (FeA cI L5 f5 own fN fe nw5 cl (fun _ => .null) rk wd tw pa pb) → (chn L5 f5 own fe lb la9 cv5 qs5) → (∀ q ∈ qs5, q < fN) → (tkI qs qs5 la9 nw nw5) → (kpT (fun g => ¬ g % 8 = 0) L f own L5 f5 own) → va_P (dC, dI) classes ([(oc11 sp9 g1 g2 g3 md9 ch9)] ++ va_pl L5 f5) H → va_D A ([(oc11 sp9 g1 g2 g3 md9 ch9)] ++ va_pl L5 f5) → va_S A s.heap H locs → lv_has ls 2 [(1, cv5), (0, .ref sp9)] → W p l e ((headSpec (.code yX9_repeat cX9_repeat 2 none :: ws0) ({ frames := 0, cells := 0, slots := 0, locals := 0 } : Room)).room) s m ([.ref sp9] : List Value).toArray below meth c H locs 0 0 Q9 (F0 m 5 ls []) := by
      intro n9
      induction n9 with
      | zero => intro cv5 L5 f5 nw5 qs5 H locs ls hm; exact absurd hm (Nat.not_lt_zero _)
      | succ n9 ih_5 =>
        intro cv5 L5 f5 nw5 qs5 H locs ls hm hF5 hc5 hqn5 ht5 hk5 hP hD hS hl
        rcases chn_ca hc5 with ⟨hv5, hq5⟩ | ⟨c5, q5, nx5, r9, hv5, hq5, hcc5, hcr5⟩
        · skip
          subst hv5
          refine lv_aload_nN hx hb dX9_repeat_5 rfl (lv_at hl 0 rfl) ?_
          refine lv_ifnullN (tgt := 28) hx hb dX9_repeat_6 (by decide) ?_
          subst hq5
          have hte := tkI_e ht5
          have hP9 := hP.part (cx := [(oc11 sp9 g1 g2 g3 md9 ch9)]) [0] rfl
          have hD9 := hD.part (cx := [(oc11 sp9 g1 g2 g3 md9 ch9)]) [0] (by decide) rfl
          rw [hQ9]
          exact W.vret hx hb hr (fun t ht hW => ⟨⟨rfl, L5, f5, nw5, (hF5), (hte), (hk5), by rw [ht]; exact hP9, hD9⟩, hS.F ht⟩) hS.2.2 dX9_repeat_28
        · skip
          subst hv5
          subst hq5
          obtain ⟨lo5, hcf5⟩ := FeA_c hF5 (hqn5 q5 (List.mem_cons_self ..))
          have hc9_1 : inPl L5 f5 [(oc12 c5 (.ref (fe q5)) (.ref (lb q5)) (.ref (la9 q5)) nx5), (oc1 (fe q5) (rk q5) (wd q5) (tw q5) (pa q5) (pb q5) (.ref lo5) (.ref (nw5 q5)) .null)] := ⟨ce_pl hcc5, ce_pl hcf5, trivial⟩
          have hD0_1 := hD
          obtain ⟨hP, hD⟩ := pl_out hP hD [(oc12 c5 (.ref (fe q5)) (.ref (lb q5)) (.ref (la9 q5)) nx5), (oc1 (fe q5) (rk q5) (wd q5) (tw q5) (pa q5) (pb q5) (.ref lo5) (.ref (nw5 q5)) .null)] hc9_1 (pw2 (cl_ne hcc5.2.1 hcf5.2.1 (by decide)))
          generalize hT_1 : outPl L5 [(oc12 c5 (.ref (fe q5)) (.ref (lb q5)) (.ref (la9 q5)) nx5), (oc1 (fe q5) (rk q5) (wd q5) (tw q5) (pa q5) (pb q5) (.ref lo5) (.ref (nw5 q5)) .null)] = T_1 at hP hD
          have hP : va_P (dC, dI) classes ([(oc11 sp9 g1 g2 g3 md9 ch9), (oc12 c5 (.ref (fe q5)) (.ref (lb q5)) (.ref (la9 q5)) nx5), (oc1 (fe q5) (rk q5) (wd q5) (tw q5) (pa q5) (pb q5) (.ref lo5) (.ref (nw5 q5)) .null)] ++ va_pl T_1 f5) H := hP
          have hD : va_D A ([(oc11 sp9 g1 g2 g3 md9 ch9), (oc12 c5 (.ref (fe q5)) (.ref (lb q5)) (.ref (la9 q5)) nx5), (oc1 (fe q5) (rk q5) (wd q5) (tw q5) (pa q5) (pb q5) (.ref lo5) (.ref (nw5 q5)) .null)] ++ va_pl T_1 f5) := hD
          refine lv_aload_n hx hb dX9_repeat_5 rfl (lv_at hl 0 rfl) ?_
          refine lv_ifnull hx hb dX9_repeat_6 ?_
          refine lv_aload_n hx hb dX9_repeat_9 rfl (lv_at hl 0 rfl) ?_
          refine va_get (D := (dC, dI)) (ci := 12) (v := .ref (fe q5)) (C := RX1) (T := TX1) (N := 4) hx hb hts inX1 hown hK hP 1 rfl rfl 0 (by decide) (hts _ mw_791) (fun _ h9 => h9) rfl dX9_repeat_10 ?_
          refine lv_aload_n hx hb dX9_repeat_13 rfl (lv_at hl 0 rfl) ?_
          refine va_get (D := (dC, dI)) (ci := 12) (v := .ref (la9 q5)) (C := RX1) (T := TX1) (N := 4) hx hb hts inX1 hown hK hP 1 rfl rfl 2 (by decide) (hts _ mw_795) (fun _ h9 => h9) rfl dX9_repeat_14 ?_
          refine va_put (D := (dC, dI)) (ci := 1) (v := .ref (la9 q5)) (ty := .object "ScaleShop$Look") (C := RX2) (T := TX2) (N := 8) hx hb hts inX2 tyX2 tyX2_ok nmX2 hown hK hP hD hS 2 rfl rfl 6 (by decide) (hts _ mw_431) (fun _ h9 => h9) rfl (by decide +kernel) rfl rfl (Nat.le_of_ble_eq_true rfl) dX9_repeat_17 (fun H locs hP hD hS => ?_)
          have hP : va_P (dC, dI) classes ([(oc11 sp9 g1 g2 g3 md9 ch9), (oc12 c5 (.ref (fe q5)) (.ref (lb q5)) (.ref (la9 q5)) nx5), (oc1 (fe q5) (rk q5) (wd q5) (tw q5) (pa q5) (pb q5) (.ref lo5) (.ref (la9 q5)) .null)] ++ va_pl T_1 f5) H := hP
          have hD : va_D A ([(oc11 sp9 g1 g2 g3 md9 ch9), (oc12 c5 (.ref (fe q5)) (.ref (lb q5)) (.ref (la9 q5)) nx5), (oc1 (fe q5) (rk q5) (wd q5) (tw q5) (pa q5) (pb q5) (.ref lo5) (.ref (la9 q5)) .null)] ++ va_pl T_1 f5) := hD
          refine lv_aload_n hx hb dX9_repeat_20 rfl (lv_at hl 0 rfl) ?_
          refine va_get (D := (dC, dI)) (ci := 12) (v := nx5) (C := RX1) (T := TX1) (N := 4) hx hb hts inX1 hown hK hP 1 rfl rfl 3 (by decide) (hts _ mw_797) (fun _ h9 => h9) rfl dX9_repeat_21 ?_
          rcases chn_nc hcr5 with hv6 | ⟨c6, hv6⟩
          · skip
            rw [hv6]
            refine lv_astore_nN (lv' := [(1, .null), (0, .ref sp9)]) hx hb dX9_repeat_24 rfl hl (by decide) rfl (fun ls hl => ?_)
            have hP : va_P (dC, dI) classes (([(oc11 sp9 g1 g2 g3 md9 ch9)] ++ [(oc12 c5 (.ref (fe q5)) (.ref (lb q5)) (.ref (la9 q5)) nx5), (oc1 (fe q5) (rk q5) (wd q5) (tw q5) (pa q5) (pb q5) (.ref lo5) (.ref (la9 q5)) .null)]) ++ va_pl T_1 f5) H := hP
            have hD : va_D A (([(oc11 sp9 g1 g2 g3 md9 ch9)] ++ [(oc12 c5 (.ref (fe q5)) (.ref (lb q5)) (.ref (la9 q5)) nx5), (oc1 (fe q5) (rk q5) (wd q5) (tw q5) (pa q5) (pb q5) (.ref lo5) (.ref (la9 q5)) .null)]) ++ va_pl T_1 f5) := hD
            obtain ⟨Lp1, fp1, hP, hD, hpin_1⟩ := pl_pin (cs := [(oc12 c5 (.ref (fe q5)) (.ref (lb q5)) (.ref (la9 q5)) nx5), (oc1 (fe q5) (rk q5) (wd q5) (tw q5) (pa q5) (pb q5) (.ref lo5) (.ref (nw5 q5)) .null)]) (old := [(oc12 c5 (.ref (fe q5)) (.ref (lb q5)) (.ref (la9 q5)) nx5), (oc1 (fe q5) (rk q5) (wd q5) (tw q5) (pa q5) (pb q5) (.ref lo5) (.ref (la9 q5)) .null)]) (new := []) (cs1 := [(oc12 c5 (.ref (fe q5)) (.ref (lb q5)) (.ref (la9 q5)) nx5), (oc1 (fe q5) (rk q5) (wd q5) (tw q5) (pa q5) (pb q5) (.ref lo5) (.ref (la9 q5)) .null)]) (X := [(oc11 sp9 g1 g2 g3 md9 ch9)]) (L := L5) (f := f5) rfl rfl (by rw [hT_1]; exact hP) (by rw [hT_1]; exact hD)
            obtain ⟨hfr_1, hkp_1, hce_1, hsx_1, hpw_1⟩ := id hpin_1
            have hks5 := hkp_1 own own (fun g => ¬ g % 8 = 0) (fun _ _ => rfl) ⟨fun _ _ => hcc5.2.1, fun _ hp => absurd (show own (fe q5) % 8 = 0 by rw [hcf5.2.2]; omega) hp, trivial⟩
            have hkn5 := kpT_tr hk5 hks5
            have hkf5 := hkp_1 own own (fun g => g ≠ 8 * q5) (fun _ _ => rfl) ⟨fun _ _ => hcc5.2.1, fun _ hp => absurd hcf5.2.2 hp, trivial⟩
            have hFn5 := tk_F hF5 hkf5 hcf5 (hce_1 own 1 _ _ (8 * q5) rfl hcf5.2.2)
            have hcn5 := chn_kp hks5 (by omega) hcr5
            refine lv_goto (tgt := 5) hx hb dX9_repeat_25 (by decide) ?_
            exact ih_5 (.null) Lp1 fp1 (upN nw5 q5 (la9 q5)) r9 H locs ls (by simp only [List.length_cons] at hm; omega) (hFn5) (by rw [hv6] at hcn5; exact hcn5) (fun q hq => hqn5 q (List.mem_cons_of_mem _ hq)) (tkI_s ht5) (hkn5) hP hD hS (lv_sub hl [0, 1] rfl)
          · skip
            rw [hv6]
            refine lv_astore_n (lv' := [(1, .ref c6), (0, .ref sp9)]) hx hb dX9_repeat_24 rfl hl (by decide) rfl (fun ls hl => ?_)
            have hP : va_P (dC, dI) classes (([(oc11 sp9 g1 g2 g3 md9 ch9)] ++ [(oc12 c5 (.ref (fe q5)) (.ref (lb q5)) (.ref (la9 q5)) nx5), (oc1 (fe q5) (rk q5) (wd q5) (tw q5) (pa q5) (pb q5) (.ref lo5) (.ref (la9 q5)) .null)]) ++ va_pl T_1 f5) H := hP
            have hD : va_D A (([(oc11 sp9 g1 g2 g3 md9 ch9)] ++ [(oc12 c5 (.ref (fe q5)) (.ref (lb q5)) (.ref (la9 q5)) nx5), (oc1 (fe q5) (rk q5) (wd q5) (tw q5) (pa q5) (pb q5) (.ref lo5) (.ref (la9 q5)) .null)]) ++ va_pl T_1 f5) := hD
            obtain ⟨Lp1, fp1, hP, hD, hpin_1⟩ := pl_pin (cs := [(oc12 c5 (.ref (fe q5)) (.ref (lb q5)) (.ref (la9 q5)) nx5), (oc1 (fe q5) (rk q5) (wd q5) (tw q5) (pa q5) (pb q5) (.ref lo5) (.ref (nw5 q5)) .null)]) (old := [(oc12 c5 (.ref (fe q5)) (.ref (lb q5)) (.ref (la9 q5)) nx5), (oc1 (fe q5) (rk q5) (wd q5) (tw q5) (pa q5) (pb q5) (.ref lo5) (.ref (la9 q5)) .null)]) (new := []) (cs1 := [(oc12 c5 (.ref (fe q5)) (.ref (lb q5)) (.ref (la9 q5)) nx5), (oc1 (fe q5) (rk q5) (wd q5) (tw q5) (pa q5) (pb q5) (.ref lo5) (.ref (la9 q5)) .null)]) (X := [(oc11 sp9 g1 g2 g3 md9 ch9)]) (L := L5) (f := f5) rfl rfl (by rw [hT_1]; exact hP) (by rw [hT_1]; exact hD)
            obtain ⟨hfr_1, hkp_1, hce_1, hsx_1, hpw_1⟩ := id hpin_1
            have hks5 := hkp_1 own own (fun g => ¬ g % 8 = 0) (fun _ _ => rfl) ⟨fun _ _ => hcc5.2.1, fun _ hp => absurd (show own (fe q5) % 8 = 0 by rw [hcf5.2.2]; omega) hp, trivial⟩
            have hkn5 := kpT_tr hk5 hks5
            have hkf5 := hkp_1 own own (fun g => g ≠ 8 * q5) (fun _ _ => rfl) ⟨fun _ _ => hcc5.2.1, fun _ hp => absurd hcf5.2.2 hp, trivial⟩
            have hFn5 := tk_F hF5 hkf5 hcf5 (hce_1 own 1 _ _ (8 * q5) rfl hcf5.2.2)
            have hcn5 := chn_kp hks5 (by omega) hcr5
            refine lv_goto (tgt := 5) hx hb dX9_repeat_25 (by decide) ?_
            exact ih_5 (.ref c6) Lp1 fp1 (upN nw5 q5 (la9 q5)) r9 H locs ls (by simp only [List.length_cons] at hm; omega) (hFn5) (by rw [hv6] at hcn5; exact hcn5) (fun q hq => hqn5 q (List.mem_cons_of_mem _ hq)) (tkI_s ht5) (hkn5) hP hD hS (lv_sub hl [0, 1] rfl)
    exact hl_5 _ (.null) L f nw qs s.heap [] ls (Nat.lt_succ_self _) (hF) (by rw [hv7] at hch; exact hch) (hqn) (tkI_0 _ _ _) (kpT_rf) hP hD hS (lv_sub hl [0, 1] rfl)
  · skip
    rw [hv7]
    refine lv_astore_n (lv' := [(1, .ref c7), (0, .ref sp9)]) hx hb dX9_repeat_4 rfl hl (by decide) rfl (fun ls hl => ?_)
    have hl_5 : ∀ (n9 : Nat) (cv5 : Value) (L5 : List Nat) (f5 : Nat → va_E) (nw5 : Nat → Nat) (qs5 : List Nat) (H : Heap) (locs : List Loc) (ls : Array Slot), qs5.length < n9 → (FeA cI L5 f5 own fN fe nw5 cl (fun _ => .null) rk wd tw pa pb) → (chn L5 f5 own fe lb la9 cv5 qs5) → (∀ q ∈ qs5, q < fN) → (tkI qs qs5 la9 nw nw5) → (kpT (fun g => ¬ g % 8 = 0) L f own L5 f5 own) → va_P (dC, dI) classes ([(oc11 sp9 g1 g2 g3 md9 ch9)] ++ va_pl L5 f5) H → va_D A ([(oc11 sp9 g1 g2 g3 md9 ch9)] ++ va_pl L5 f5) → va_S A s.heap H locs → lv_has ls 2 [(1, cv5), (0, .ref sp9)] → W p l e ((headSpec (.code yX9_repeat cX9_repeat 2 none :: ws0) ({ frames := 0, cells := 0, slots := 0, locals := 0 } : Room)).room) s m ([.ref sp9] : List Value).toArray below meth c H locs 0 0 Q9 (F0 m 5 ls []) := by
      intro n9
      induction n9 with
      | zero => intro cv5 L5 f5 nw5 qs5 H locs ls hm; exact absurd hm (Nat.not_lt_zero _)
      | succ n9 ih_5 =>
        intro cv5 L5 f5 nw5 qs5 H locs ls hm hF5 hc5 hqn5 ht5 hk5 hP hD hS hl
        rcases chn_ca hc5 with ⟨hv5, hq5⟩ | ⟨c5, q5, nx5, r9, hv5, hq5, hcc5, hcr5⟩
        · skip
          subst hv5
          refine lv_aload_nN hx hb dX9_repeat_5 rfl (lv_at hl 0 rfl) ?_
          refine lv_ifnullN (tgt := 28) hx hb dX9_repeat_6 (by decide) ?_
          subst hq5
          have hte := tkI_e ht5
          have hP9 := hP.part (cx := [(oc11 sp9 g1 g2 g3 md9 ch9)]) [0] rfl
          have hD9 := hD.part (cx := [(oc11 sp9 g1 g2 g3 md9 ch9)]) [0] (by decide) rfl
          rw [hQ9]
          exact W.vret hx hb hr (fun t ht hW => ⟨⟨rfl, L5, f5, nw5, (hF5), (hte), (hk5), by rw [ht]; exact hP9, hD9⟩, hS.F ht⟩) hS.2.2 dX9_repeat_28
        · skip
          subst hv5
          subst hq5
          obtain ⟨lo5, hcf5⟩ := FeA_c hF5 (hqn5 q5 (List.mem_cons_self ..))
          have hc9_1 : inPl L5 f5 [(oc12 c5 (.ref (fe q5)) (.ref (lb q5)) (.ref (la9 q5)) nx5), (oc1 (fe q5) (rk q5) (wd q5) (tw q5) (pa q5) (pb q5) (.ref lo5) (.ref (nw5 q5)) .null)] := ⟨ce_pl hcc5, ce_pl hcf5, trivial⟩
          have hD0_1 := hD
          obtain ⟨hP, hD⟩ := pl_out hP hD [(oc12 c5 (.ref (fe q5)) (.ref (lb q5)) (.ref (la9 q5)) nx5), (oc1 (fe q5) (rk q5) (wd q5) (tw q5) (pa q5) (pb q5) (.ref lo5) (.ref (nw5 q5)) .null)] hc9_1 (pw2 (cl_ne hcc5.2.1 hcf5.2.1 (by decide)))
          generalize hT_1 : outPl L5 [(oc12 c5 (.ref (fe q5)) (.ref (lb q5)) (.ref (la9 q5)) nx5), (oc1 (fe q5) (rk q5) (wd q5) (tw q5) (pa q5) (pb q5) (.ref lo5) (.ref (nw5 q5)) .null)] = T_1 at hP hD
          have hP : va_P (dC, dI) classes ([(oc11 sp9 g1 g2 g3 md9 ch9), (oc12 c5 (.ref (fe q5)) (.ref (lb q5)) (.ref (la9 q5)) nx5), (oc1 (fe q5) (rk q5) (wd q5) (tw q5) (pa q5) (pb q5) (.ref lo5) (.ref (nw5 q5)) .null)] ++ va_pl T_1 f5) H := hP
          have hD : va_D A ([(oc11 sp9 g1 g2 g3 md9 ch9), (oc12 c5 (.ref (fe q5)) (.ref (lb q5)) (.ref (la9 q5)) nx5), (oc1 (fe q5) (rk q5) (wd q5) (tw q5) (pa q5) (pb q5) (.ref lo5) (.ref (nw5 q5)) .null)] ++ va_pl T_1 f5) := hD
          refine lv_aload_n hx hb dX9_repeat_5 rfl (lv_at hl 0 rfl) ?_
          refine lv_ifnull hx hb dX9_repeat_6 ?_
          refine lv_aload_n hx hb dX9_repeat_9 rfl (lv_at hl 0 rfl) ?_
          refine va_get (D := (dC, dI)) (ci := 12) (v := .ref (fe q5)) (C := RX1) (T := TX1) (N := 4) hx hb hts inX1 hown hK hP 1 rfl rfl 0 (by decide) (hts _ mw_791) (fun _ h9 => h9) rfl dX9_repeat_10 ?_
          refine lv_aload_n hx hb dX9_repeat_13 rfl (lv_at hl 0 rfl) ?_
          refine va_get (D := (dC, dI)) (ci := 12) (v := .ref (la9 q5)) (C := RX1) (T := TX1) (N := 4) hx hb hts inX1 hown hK hP 1 rfl rfl 2 (by decide) (hts _ mw_795) (fun _ h9 => h9) rfl dX9_repeat_14 ?_
          refine va_put (D := (dC, dI)) (ci := 1) (v := .ref (la9 q5)) (ty := .object "ScaleShop$Look") (C := RX2) (T := TX2) (N := 8) hx hb hts inX2 tyX2 tyX2_ok nmX2 hown hK hP hD hS 2 rfl rfl 6 (by decide) (hts _ mw_431) (fun _ h9 => h9) rfl (by decide +kernel) rfl rfl (Nat.le_of_ble_eq_true rfl) dX9_repeat_17 (fun H locs hP hD hS => ?_)
          have hP : va_P (dC, dI) classes ([(oc11 sp9 g1 g2 g3 md9 ch9), (oc12 c5 (.ref (fe q5)) (.ref (lb q5)) (.ref (la9 q5)) nx5), (oc1 (fe q5) (rk q5) (wd q5) (tw q5) (pa q5) (pb q5) (.ref lo5) (.ref (la9 q5)) .null)] ++ va_pl T_1 f5) H := hP
          have hD : va_D A ([(oc11 sp9 g1 g2 g3 md9 ch9), (oc12 c5 (.ref (fe q5)) (.ref (lb q5)) (.ref (la9 q5)) nx5), (oc1 (fe q5) (rk q5) (wd q5) (tw q5) (pa q5) (pb q5) (.ref lo5) (.ref (la9 q5)) .null)] ++ va_pl T_1 f5) := hD
          refine lv_aload_n hx hb dX9_repeat_20 rfl (lv_at hl 0 rfl) ?_
          refine va_get (D := (dC, dI)) (ci := 12) (v := nx5) (C := RX1) (T := TX1) (N := 4) hx hb hts inX1 hown hK hP 1 rfl rfl 3 (by decide) (hts _ mw_797) (fun _ h9 => h9) rfl dX9_repeat_21 ?_
          rcases chn_nc hcr5 with hv6 | ⟨c6, hv6⟩
          · skip
            rw [hv6]
            refine lv_astore_nN (lv' := [(1, .null), (0, .ref sp9)]) hx hb dX9_repeat_24 rfl hl (by decide) rfl (fun ls hl => ?_)
            have hP : va_P (dC, dI) classes (([(oc11 sp9 g1 g2 g3 md9 ch9)] ++ [(oc12 c5 (.ref (fe q5)) (.ref (lb q5)) (.ref (la9 q5)) nx5), (oc1 (fe q5) (rk q5) (wd q5) (tw q5) (pa q5) (pb q5) (.ref lo5) (.ref (la9 q5)) .null)]) ++ va_pl T_1 f5) H := hP
            have hD : va_D A (([(oc11 sp9 g1 g2 g3 md9 ch9)] ++ [(oc12 c5 (.ref (fe q5)) (.ref (lb q5)) (.ref (la9 q5)) nx5), (oc1 (fe q5) (rk q5) (wd q5) (tw q5) (pa q5) (pb q5) (.ref lo5) (.ref (la9 q5)) .null)]) ++ va_pl T_1 f5) := hD
            obtain ⟨Lp1, fp1, hP, hD, hpin_1⟩ := pl_pin (cs := [(oc12 c5 (.ref (fe q5)) (.ref (lb q5)) (.ref (la9 q5)) nx5), (oc1 (fe q5) (rk q5) (wd q5) (tw q5) (pa q5) (pb q5) (.ref lo5) (.ref (nw5 q5)) .null)]) (old := [(oc12 c5 (.ref (fe q5)) (.ref (lb q5)) (.ref (la9 q5)) nx5), (oc1 (fe q5) (rk q5) (wd q5) (tw q5) (pa q5) (pb q5) (.ref lo5) (.ref (la9 q5)) .null)]) (new := []) (cs1 := [(oc12 c5 (.ref (fe q5)) (.ref (lb q5)) (.ref (la9 q5)) nx5), (oc1 (fe q5) (rk q5) (wd q5) (tw q5) (pa q5) (pb q5) (.ref lo5) (.ref (la9 q5)) .null)]) (X := [(oc11 sp9 g1 g2 g3 md9 ch9)]) (L := L5) (f := f5) rfl rfl (by rw [hT_1]; exact hP) (by rw [hT_1]; exact hD)
            obtain ⟨hfr_1, hkp_1, hce_1, hsx_1, hpw_1⟩ := id hpin_1
            have hks5 := hkp_1 own own (fun g => ¬ g % 8 = 0) (fun _ _ => rfl) ⟨fun _ _ => hcc5.2.1, fun _ hp => absurd (show own (fe q5) % 8 = 0 by rw [hcf5.2.2]; omega) hp, trivial⟩
            have hkn5 := kpT_tr hk5 hks5
            have hkf5 := hkp_1 own own (fun g => g ≠ 8 * q5) (fun _ _ => rfl) ⟨fun _ _ => hcc5.2.1, fun _ hp => absurd hcf5.2.2 hp, trivial⟩
            have hFn5 := tk_F hF5 hkf5 hcf5 (hce_1 own 1 _ _ (8 * q5) rfl hcf5.2.2)
            have hcn5 := chn_kp hks5 (by omega) hcr5
            refine lv_goto (tgt := 5) hx hb dX9_repeat_25 (by decide) ?_
            exact ih_5 (.null) Lp1 fp1 (upN nw5 q5 (la9 q5)) r9 H locs ls (by simp only [List.length_cons] at hm; omega) (hFn5) (by rw [hv6] at hcn5; exact hcn5) (fun q hq => hqn5 q (List.mem_cons_of_mem _ hq)) (tkI_s ht5) (hkn5) hP hD hS (lv_sub hl [0, 1] rfl)
          · skip
            rw [hv6]
            refine lv_astore_n (lv' := [(1, .ref c6), (0, .ref sp9)]) hx hb dX9_repeat_24 rfl hl (by decide) rfl (fun ls hl => ?_)
            have hP : va_P (dC, dI) classes (([(oc11 sp9 g1 g2 g3 md9 ch9)] ++ [(oc12 c5 (.ref (fe q5)) (.ref (lb q5)) (.ref (la9 q5)) nx5), (oc1 (fe q5) (rk q5) (wd q5) (tw q5) (pa q5) (pb q5) (.ref lo5) (.ref (la9 q5)) .null)]) ++ va_pl T_1 f5) H := hP
            have hD : va_D A (([(oc11 sp9 g1 g2 g3 md9 ch9)] ++ [(oc12 c5 (.ref (fe q5)) (.ref (lb q5)) (.ref (la9 q5)) nx5), (oc1 (fe q5) (rk q5) (wd q5) (tw q5) (pa q5) (pb q5) (.ref lo5) (.ref (la9 q5)) .null)]) ++ va_pl T_1 f5) := hD
            obtain ⟨Lp1, fp1, hP, hD, hpin_1⟩ := pl_pin (cs := [(oc12 c5 (.ref (fe q5)) (.ref (lb q5)) (.ref (la9 q5)) nx5), (oc1 (fe q5) (rk q5) (wd q5) (tw q5) (pa q5) (pb q5) (.ref lo5) (.ref (nw5 q5)) .null)]) (old := [(oc12 c5 (.ref (fe q5)) (.ref (lb q5)) (.ref (la9 q5)) nx5), (oc1 (fe q5) (rk q5) (wd q5) (tw q5) (pa q5) (pb q5) (.ref lo5) (.ref (la9 q5)) .null)]) (new := []) (cs1 := [(oc12 c5 (.ref (fe q5)) (.ref (lb q5)) (.ref (la9 q5)) nx5), (oc1 (fe q5) (rk q5) (wd q5) (tw q5) (pa q5) (pb q5) (.ref lo5) (.ref (la9 q5)) .null)]) (X := [(oc11 sp9 g1 g2 g3 md9 ch9)]) (L := L5) (f := f5) rfl rfl (by rw [hT_1]; exact hP) (by rw [hT_1]; exact hD)
            obtain ⟨hfr_1, hkp_1, hce_1, hsx_1, hpw_1⟩ := id hpin_1
            have hks5 := hkp_1 own own (fun g => ¬ g % 8 = 0) (fun _ _ => rfl) ⟨fun _ _ => hcc5.2.1, fun _ hp => absurd (show own (fe q5) % 8 = 0 by rw [hcf5.2.2]; omega) hp, trivial⟩
            have hkn5 := kpT_tr hk5 hks5
            have hkf5 := hkp_1 own own (fun g => g ≠ 8 * q5) (fun _ _ => rfl) ⟨fun _ _ => hcc5.2.1, fun _ hp => absurd hcf5.2.2 hp, trivial⟩
            have hFn5 := tk_F hF5 hkf5 hcf5 (hce_1 own 1 _ _ (8 * q5) rfl hcf5.2.2)
            have hcn5 := chn_kp hks5 (by omega) hcr5
            refine lv_goto (tgt := 5) hx hb dX9_repeat_25 (by decide) ?_
            exact ih_5 (.ref c6) Lp1 fp1 (upN nw5 q5 (la9 q5)) r9 H locs ls (by simp only [List.length_cons] at hm; omega) (hFn5) (by rw [hv6] at hcn5; exact hcn5) (fun q hq => hqn5 q (List.mem_cons_of_mem _ hq)) (tkI_s ht5) (hkn5) hP hD hS (lv_sub hl [0, 1] rfl)
    exact hl_5 _ (.ref c7) L f nw qs s.heap [] ls (Nat.lt_succ_self _) (hF) (by rw [hv7] at hch; exact hch) (hqn) (tkI_0 _ _ _) (kpT_rf) hP hD hS (lv_sub hl [0, 1] rfl)
