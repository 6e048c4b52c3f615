set_option maxHeartbeats 4000000 in
set_option maxRecDepth 100000 in
theorem k_Row_pull (l : Launch) (dC : Nat → ClassId) (dI : Nat → Nat → Nat) (cI cZ cF : ClassId) (sz : Nat) (r : Nat) (rx : Nat) (ry : Nat) (n : Nat) (cap : Nat) (X : Nat → Int32) (Y : Nat → Int32) (rg : Int32) (kk : Nat) (rr : Nat) (dx : Int32) (dy : Int32) (kf : Int) (hn : n ≤ cap) (hcap : cap ≤ 1000) (hkk : kk < n) (hn40 : n ≤ 40) (hrr : rr ≤ 20) (hrf : rg.toInt = 0 ↔ ¬ 5 ≤ kf) : Met l yX7_pull (.code yX7_pull cX7_pull 8 none :: ws0) ({ frames := 1, cells := 0, slots := 0, locals := 21 } : Room) (va_Pc [.ref r, .int (nI kk), .int dx, .int dy, .int (nI rr)] (zPre (dC, dI) classes (zTy cI cZ cF) [(oc6 r (.ref rx) (.ref ry) (nI n) rg), (oa rx cI cap X), (oa ry cI cap Y)] sz zXN)) (zQ none (fun t => ∃ (X1 : Nat → Int32), ∃ (Y1 : Nat → Int32), (∀ j, j < n → X1 j = shV kf n kk dx rr X j ∧ Y1 j = shV kf n kk dy rr Y j) ∧ va_P (dC, dI) classes [(oc6 r (.ref rx) (.ref ry) (nI n) rg), (oa rx cI cap X1), (oa ry cI cap Y1)] t.heap ∧ va_D (va_A [(oc6 r (.ref rx) (.ref ry) (nI n) rg), (oa rx cI cap X), (oa ry cI cap Y)] sz) [(oc6 r (.ref rx) (.ref ry) (nI n) rg), (oa rx cI cap X1), (oa ry cI cap Y1)]) (va_A [(oc6 r (.ref rx) (.ref ry) (nI n) rg), (oa rx cI cap X), (oa ry cI cap Y)] sz)) 0 0 (va_A [(oc6 r (.ref rx) (.ref ry) (nI n) rg), (oa rx cI cap X), (oa ry cI cap Y)] sz) := by
  refine Met.ofW (cc := cX7_pull) (maxL := 8) (ret := none) (by decide) rfl ?_
  intro p e s m args below meth c s₁ B hml hv
  obtain ⟨rfl, hsz, hP, hK, hD0, hXN⟩ := hv
  have hx := B.exec
  have hb := B.bytes
  have hr := B.returns
  have hts0 := atoms_spec (ws := .code yX7_pull cX7_pull 8 none :: ws0) B.pre
  have hts : ∀ w9 ∈ ws0, w9.before ([.ref r, .int (nI kk), .int dx, .int dy, .int (nI rr)] : List Value).toArray s = true := fun w9 h => hts0 w9 (List.mem_cons_of_mem _ h)
  have hown : s.vm.findClass "ScaleShop$Row" = some m.cls := findClass_of_methodNamed B.named
  have hlocks := B.notSynchronized
  subst hsz
  have hD := hD0.self (sz := s.heap.size)
  clear hD0
  generalize hAe : va_A [(oc6 r (.ref rx) (.ref ry) (nI n) rg), (oa rx cI cap X), (oa ry cI cap Y)] s.heap.size = A at hD ⊢
  have hA : ∀ q : Nat, s.heap.size ≤ q → A q := fun q h => by rw [← hAe]; exact Or.inr h
  clear hAe
  have hS : va_S A s.heap s.heap [] := va_S.rf
  have hP : va_P (dC, dI) classes [(oc6 r (.ref rx) (.ref ry) (nI n) rg), (oa rx cI cap X), (oa ry cI cap Y)] s.heap := hP
  obtain ⟨Q9, hQ9⟩ : ∃ Q9 : State → Prop, Q9 = MQ below (zQ none (fun t => ∃ (X1 : Nat → Int32), ∃ (Y1 : Nat → Int32), (∀ j, j < n → X1 j = shV kf n kk dx rr X j ∧ Y1 j = shV kf n kk dy rr Y j) ∧ va_P (dC, dI) classes [(oc6 r (.ref rx) (.ref ry) (nI n) rg), (oa rx cI cap X1), (oa ry cI cap Y1)] t.heap ∧ va_D A [(oc6 r (.ref rx) (.ref ry) (nI n) rg), (oa rx cI cap X1), (oa ry cI cap Y1)]) A) ([.ref r, .int (nI kk), .int dx, .int dy, .int (nI rr)] : List Value).toArray s 0 0 A := ⟨_, rfl⟩
  rw [← hQ9]
  have hl := lv_entry ([.ref r, .int (nI kk), .int dx, .int dy, .int (nI rr)]) (n := 8) (Nat.le_of_ble_eq_true rfl)
  rw [lg_entry_eq]
  generalize (lg_sl ([.ref r, .int (nI kk), .int dx, .int dy, .int (nI rr)]) ++ List.replicate (8 - (lg_sl ([.ref r, .int (nI kk), .int dx, .int dy, .int (nI rr)])).length) Slot.unset).toArray = ls at hl ⊢
  have hl : lv_has ls 8 [(0, .ref r), (1, .int (nI kk)), (2, .int dx), (3, .int dy), (4, .int (nI rr))] := hl
  refine lv_iload hx hb dX7_pull_0 (lv_at hl 4 rfl) ?_
  refine lv_iconst (v := 0) hx hb dX7_pull_2 (by decide) ?_
  refine va_mmax hx hb (by rw [hml]; exact hl.1.symm) hown (hts _ mw_158) (hts _ mw_159) (hts _ mw_103) (hts _ mw_maxcode) (Nat.le_of_ble_eq_true rfl) (Nat.le_of_ble_eq_true rfl) (Nat.le_of_ble_eq_true rfl) (Nat.le_of_ble_eq_true rfl) dX7_pull_3 ?_
  refine lv_topi (fun v_1 ev_1 => ?_)
  have hv_1 : v_1.toInt = max ((rr : Nat) : Int) 0 := zmax (nI_toInt (by omega)) (by decide) ev_1
  refine zz_i (v := nI rr) (Int32.toInt_inj.mp (by rw [hv_1, nI_toInt (by omega)]; omega)) ?_
  refine lv_iconst (v := 1) hx hb dX7_pull_6 (by decide) ?_
  refine lv_iadd hx hb dX7_pull_7 ?_
  refine zz_i (v := nI (rr + 1)) (nI_add rr 1) ?_
  refine lv_istore (lv' := [(5, .int (nI (rr + 1))), (0, .ref r), (1, .int (nI kk)), (2, .int dx), (3, .int dy), (4, .int (nI rr))]) hx hb dX7_pull_8 hl (by decide) rfl (fun ls hl => ?_)
  refine lv_iconst (v := 0) hx hb dX7_pull_10 (by decide) ?_
  refine lv_istore (lv' := [(6, .int 0), (5, .int (nI (rr + 1))), (0, .ref r), (1, .int (nI kk)), (2, .int dx), (3, .int dy), (4, .int (nI rr))]) hx hb dX7_pull_11 hl (by decide) rfl (fun ls hl => ?_)
  have hl_13 : ∀ (n9 : Nat) (i : Nat) (X1 : Nat → Int32) (Y1 : Nat → Int32) (H : Heap) (locs : List Loc) (ls : Array Slot), n - i < n9 → (i ≤ n) → (∀ j, j < i → X1 j = shV kf n kk dx rr X j ∧ Y1 j = shV kf n kk dy rr Y j) → (∀ j, i ≤ j → X1 j = X j ∧ Y1 j = Y j) → va_P (dC, dI) classes [(oc6 r (.ref rx) (.ref ry) (nI n) rg), (oa rx cI cap X1), (oa ry cI cap Y1)] H → va_D A [(oc6 r (.ref rx) (.ref ry) (nI n) rg), (oa rx cI cap X1), (oa ry cI cap Y1)] → va_S A s.heap H locs → lv_has ls 8 [(6, .int (nI i)), (5, .int (nI (rr + 1))), (0, .ref r), (1, .int (nI kk)), (2, .int dx), (3, .int dy), (4, .int (nI rr))] → W p l e ((headSpec (.code yX7_pull cX7_pull 8 none :: ws0) ({ frames := 1, cells := 0, slots := 0, locals := 21 } : Room)).room) s m ([.ref r, .int (nI kk), .int dx, .int dy, .int (nI rr)] : List Value).toArray below meth c H locs 0 0 Q9 (F0 m 13 ls []) := by
    intro n9
    induction n9 with
    | zero => intro i X1 Y1 H locs ls hm; exact absurd hm (Nat.not_lt_zero _)
    | succ n9 ih_13 =>
      intro i X1 Y1 H locs ls hm hi hlo hhi hP hD hS hl
      refine lv_iload hx hb dX7_pull_13 (lv_at hl 0 rfl) ?_
      refine lv_aload_n hx hb dX7_pull_15 rfl (lv_at hl 2 rfl) ?_
      refine va_get (D := (dC, dI)) (ci := 6) (v := .int (nI n)) (C := RX7) (T := TX7) (N := 4) hx hb hts inX7 hown hK hP 0 rfl rfl 2 (by decide) (hts _ mw_175) (fun _ h9 => h9) rfl dX7_pull_16 ?_
      refine lv_icmp_ge (tgt := 114) hx hb dX7_pull_19 (by decide) (fun c_2 => ?_) (fun c_2 => ?_)
      · have c_2 : ((n : Nat) : Int) ≤ ((i : Nat) : Int) := zc_le (nI_toInt (by omega)) (nI_toInt (by omega)) c_2
        have hP9 := hP.sub (ws' := [(oc6 r (.ref rx) (.ref ry) (nI n) rg), (oa rx cI cap X1), (oa ry cI cap Y1)]) [0, 1, 2] rfl
        have hD9 := hD.sub (ws' := [(oc6 r (.ref rx) (.ref ry) (nI n) rg), (oa rx cI cap X1), (oa ry cI cap Y1)]) [0, 1, 2] (by decide) rfl
        rw [hQ9]
        exact W.vret hx hb hr (fun t ht hW => ⟨⟨rfl, X1, Y1, (fun j hj => hlo j (by omega)), by rw [ht]; exact hP9, hD9⟩, hS.F ht⟩) hS.2.2 dX7_pull_114
      · have c_2 : ((i : Nat) : Int) < ((n : Nat) : Int) := zc_nle (nI_toInt (by omega)) (nI_toInt (by omega)) c_2
        have hin9 : i < n := (by omega)
        have hwb := wyR_b (kf := kf) hkk hin9
        refine lv_iload hx hb dX7_pull_22 (lv_at hl 0 rfl) ?_
        refine lv_iload_n hx hb dX7_pull_24 rfl (lv_at hl 3 rfl) ?_
        refine lv_isub hx hb dX7_pull_25 ?_
        refine zz_i (v := iI (((i : Nat) : Int) - ((kk : Nat) : Int))) (iI_of (by rw [fb_subI (by rw [nI_toInt (by omega), nI_toInt (by omega)]; omega) (by rw [nI_toInt (by omega), nI_toInt (by omega)]; omega), nI_toInt (by omega), nI_toInt (by omega)])) ?_
        refine va_mabs hx hb (by rw [hml]; exact hl.1.symm) hown (hts _ mw_588) (hts _ mw_589) (hts _ mw_103) (hts _ mw_abscode) (Nat.le_of_ble_eq_true rfl) (Nat.le_of_ble_eq_true rfl) (Nat.le_of_ble_eq_true rfl) (Nat.le_of_ble_eq_true rfl) dX7_pull_26 ?_
        refine zz_i (v := nI (Int.natAbs (((i : Nat) : Int) - ((kk : Nat) : Int)))) (zabs (iI_toInt (by omega)) (by omega)) ?_
        refine lv_istore (lv' := [(7, .int (nI (Int.natAbs (((i : Nat) : Int) - ((kk : Nat) : Int))))), (6, .int (nI i)), (5, .int (nI (rr + 1))), (0, .ref r), (1, .int (nI kk)), (2, .int dx), (3, .int dy), (4, .int (nI rr))]) hx hb dX7_pull_29 hl (by decide) rfl (fun ls hl => ?_)
        refine lv_aload_n hx hb dX7_pull_31 rfl (lv_at hl 3 rfl) ?_
        refine va_get (D := (dC, dI)) (ci := 6) (v := .int rg) (C := RX7) (T := TX7) (N := 4) hx hb hts inX7 hown hK hP 0 rfl rfl 3 (by decide) (hts _ mw_183) (fun _ h9 => h9) rfl dX7_pull_32 ?_
        refine lv_if_eq (tgt := 52) hx hb dX7_pull_35 (by decide) (fun c_3 => ?_) (fun c_3 => ?_)
        · have c_3 : rg.toInt = 0 := zc_eq rfl (by decide) c_3
          refine lv_iload hx hb dX7_pull_52 (lv_at hl 0 rfl) ?_
          refine zz_i (v := nI (wyR kf n kk i)) (zn_eq (by unfold wyR; first | (rw [if_pos (by omega)]) | (rw [if_neg (by omega)]))) ?_
          refine lv_iload hx hb dX7_pull_54 (lv_at hl 2 rfl) ?_
          refine lv_icmp_ge (tgt := 108) hx hb dX7_pull_56 (by decide) (fun c_4 => ?_) (fun c_4 => ?_)
          · have c_4 : ((rr + 1 : Nat) : Int) ≤ ((wyR kf n kk i : Nat) : Int) := zc_le (nI_toInt (by omega)) (nI_toInt (by omega)) c_4
            refine lv_iinc (v := nI (i + 1)) (lv' := [(6, .int (nI (i + 1))), (7, .int (nI (Int.natAbs (((i : Nat) : Int) - ((kk : Nat) : Int))))), (5, .int (nI (rr + 1))), (0, .ref r), (1, .int (nI kk)), (2, .int dx), (3, .int dy), (4, .int (nI rr))]) hx hb dX7_pull_108 hl (k := 1) rfl (nI_add i 1) (by decide) rfl (fun ls hl => ?_)
            refine lv_goto (tgt := 13) hx hb dX7_pull_111 (by decide) ?_
            exact ih_13 (i + 1) X1 Y1 H locs ls (by omega) (by omega) (by intro j hj; rcases Nat.lt_or_ge j i with h | h; (first | exact hlo j h | (simp only [upd, if_neg (show j ≠ i by omega)]; exact hlo j h)); rw [show j = i by omega]; first | (simp only [upd, if_true]; rw [(hhi i (Nat.le_refl _)).1, (hhi i (Nat.le_refl _)).2]; exact ⟨shV_f hst9, shV_f hst9⟩) | (rw [(hhi i (Nat.le_refl _)).1, (hhi i (Nat.le_refl _)).2]; have h9 : rr < wyR kf n kk i ∨ (¬ 5 ≤ kf ∧ (i = 0 ∨ i = n - 1)) := (by first | exact Or.inl (by omega) | exact Or.inr ⟨by omega, by omega⟩); exact ⟨shV_t h9, shV_t h9⟩)) (by intro j hj; first | exact hhi j (by omega) | (simp only [upd, if_neg (show j ≠ i by omega)]; exact hhi j (by omega))) hP hD hS (lv_sub hl [0, 2, 3, 4, 5, 6, 7] rfl)
          · have c_4 : ((wyR kf n kk i : Nat) : Int) < ((rr + 1 : Nat) : Int) := zc_nle (nI_toInt (by omega)) (nI_toInt (by omega)) c_4
            refine lv_aload_n hx hb dX7_pull_59 rfl (lv_at hl 3 rfl) ?_
            refine lv_iload hx hb dX7_pull_60 (lv_at hl 1 rfl) ?_
            have hPc := hP.sub (ws' := [(oc6 r (.ref rx) (.ref ry) (nI n) rg), (oa rx cI cap X1), (oa ry cI cap Y1)]) [0, 1, 2] rfl
            have hDc := hD.sub (ws' := [(oc6 r (.ref rx) (.ref ry) (nI n) rg), (oa rx cI cap X1), (oa ry cI cap Y1)]) [0, 1, 2] (by decide) rfl
            have hFc := va_free (wc := [(oc6 r (.ref rx) (.ref ry) (nI n) rg), (oa rx cI cap X1), (oa ry cI cap Y1)]) hD hS hA [0, 1, 2] rfl
            refine zcall (st1 := [.int (pI (rg.toInt = 0 ∧ (i = 0 ∨ i = n - 1)))]) (va_runV (As := [.int (nI i)]) (rest := []) ⟨hx, hb, hml, hown, hts⟩ (k_Row_isEnd l dC dI cI cZ cF H.size r rx ry n cap X1 Y1 rg i (by omega) (by omega) (by omega)) (cwV 1 hts (zz_gV mw_871 mw_577 mw_578 mw_102 mc_yX7_isEnd) rfl rfl rfl (by decide +kernel) ⟨Nat.le_of_ble_eq_true rfl, Nat.le_of_ble_eq_true rfl⟩) (zPV2 (q0 := 0) (ci := 6) hPc hDc hK hXN rfl rfl) rfl rfl hl.1 rfl (lv_room (Nat.le_of_ble_eq_true rfl)) dX7_pull_62 ⟨Nat.le_of_ble_eq_true rfl, Nat.le_of_ble_eq_true rfl⟩) hS hFc hFc rfl (fun t H1 locs ht hB hk1 hS => ?_)
            obtain ⟨hP1, hD1⟩ := hB
            rw [ht] at hP1
            obtain ⟨hP, hD⟩ := va_join (wr := []) (w1 := [(oc6 r (.ref rx) (.ref ry) (nI n) rg), (oa rx cI cap X1), (oa ry cI cap Y1)]) hP hD [0, 1, 2] [] rfl rfl (by decide) (by decide) hk1 hFc hP1 hD1
            clear hk1 hPc hDc hFc hP1 hD1 ht
            generalize H1 = H at hP hS ⊢
            have hP : va_P (dC, dI) classes [(oc6 r (.ref rx) (.ref ry) (nI n) rg), (oa rx cI cap X1), (oa ry cI cap Y1)] H := hP
            have hD : va_D A [(oc6 r (.ref rx) (.ref ry) (nI n) rg), (oa rx cI cap X1), (oa ry cI cap Y1)] := hD
            refine lv_if_ne (tgt := 108) hx hb dX7_pull_65 (by decide) (fun c_5 => ?_) (fun c_5 => ?_)
            · have c_5 : rg.toInt = 0 ∧ (i = 0 ∨ i = n - 1) := zp_1 c_5
              refine lv_iinc (v := nI (i + 1)) (lv' := [(6, .int (nI (i + 1))), (7, .int (nI (Int.natAbs (((i : Nat) : Int) - ((kk : Nat) : Int))))), (5, .int (nI (rr + 1))), (0, .ref r), (1, .int (nI kk)), (2, .int dx), (3, .int dy), (4, .int (nI rr))]) hx hb dX7_pull_108 hl (k := 1) rfl (nI_add i 1) (by decide) rfl (fun ls hl => ?_)
              refine lv_goto (tgt := 13) hx hb dX7_pull_111 (by decide) ?_
              exact ih_13 (i + 1) X1 Y1 H locs ls (by omega) (by omega) (by intro j hj; rcases Nat.lt_or_ge j i with h | h; (first | exact hlo j h | (simp only [upd, if_neg (show j ≠ i by omega)]; exact hlo j h)); rw [show j = i by omega]; first | (simp only [upd, if_true]; rw [(hhi i (Nat.le_refl _)).1, (hhi i (Nat.le_refl _)).2]; exact ⟨shV_f hst9, shV_f hst9⟩) | (rw [(hhi i (Nat.le_refl _)).1, (hhi i (Nat.le_refl _)).2]; have h9 : rr < wyR kf n kk i ∨ (¬ 5 ≤ kf ∧ (i = 0 ∨ i = n - 1)) := (by first | exact Or.inl (by omega) | exact Or.inr ⟨by omega, by omega⟩); exact ⟨shV_t h9, shV_t h9⟩)) (by intro j hj; first | exact hhi j (by omega) | (simp only [upd, if_neg (show j ≠ i by omega)]; exact hhi j (by omega))) hP hD hS (lv_sub hl [0, 2, 3, 4, 5, 6, 7] rfl)
            · have c_5 : ¬ (rg.toInt = 0 ∧ (i = 0 ∨ i = n - 1)) := zp_0 c_5
              have hst9 : ¬ (rr < wyR kf n kk i ∨ (¬ 5 ≤ kf ∧ (i = 0 ∨ i = n - 1))) := (by omega)
              refine lv_aload_n hx hb dX7_pull_68 rfl (lv_at hl 3 rfl) ?_
              refine va_get (D := (dC, dI)) (ci := 6) (v := .ref rx) (C := RX7) (T := TX7) (N := 4) hx hb hts inX7 hown hK hP 0 rfl rfl 0 (by decide) (hts _ mw_161) (fun _ h9 => h9) rfl dX7_pull_69 ?_
              refine lv_iload hx hb dX7_pull_72 (lv_at hl 1 rfl) ?_
              refine lv_dup2_11 hx hb dX7_pull_74 rfl rfl ?_
              refine z_iald hx hb hK hP 1 0 rfl rfl (e := i) rfl (by omega) (by omega) dX7_pull_75 ?_
              refine lv_iload_n hx hb dX7_pull_76 rfl (lv_at hl 5 rfl) ?_
              refine lv_iload hx hb dX7_pull_77 (lv_at hl 2 rfl) ?_
              refine lv_iload hx hb dX7_pull_79 (lv_at hl 0 rfl) ?_
              refine zz_i (v := nI (wyR kf n kk i)) (zn_eq (by unfold wyR; first | (rw [if_pos (by omega)]) | (rw [if_neg (by omega)]))) ?_
              refine lv_isub hx hb dX7_pull_81 ?_
              refine zz_i (v := nI ((rr + 1) - (wyR kf n kk i))) (pk_sub (a := rr + 1) (b := wyR kf n kk i) (by omega)) ?_
              refine lv_imul hx hb dX7_pull_82 ?_
              refine lv_iload hx hb dX7_pull_83 (lv_at hl 2 rfl) ?_
              refine lv_idiv hx hb dX7_pull_85 (nI_ne0 (by omega) (by omega)) ?_
              refine lv_iadd hx hb dX7_pull_86 ?_
              refine z_iast hx hb hK hP hD hS 1 0 rfl rfl (e := i) (x := (X1 i) + ((dx * (nI ((rr + 1) - (wyR kf n kk i)))) / (nI (rr + 1)))) rfl (by omega) (by omega) dX7_pull_87 (fun H locs hP hD hS => ?_)
              have hP : va_P (dC, dI) classes [(oc6 r (.ref rx) (.ref ry) (nI n) rg), (oa rx cI cap (upd X1 i ((X1 i) + ((dx * (nI ((rr + 1) - (wyR kf n kk i)))) / (nI (rr + 1)))))), (oa ry cI cap Y1)] H := hP
              have hD : va_D A [(oc6 r (.ref rx) (.ref ry) (nI n) rg), (oa rx cI cap (upd X1 i ((X1 i) + ((dx * (nI ((rr + 1) - (wyR kf n kk i)))) / (nI (rr + 1)))))), (oa ry cI cap Y1)] := hD
              refine lv_aload_n hx hb dX7_pull_88 rfl (lv_at hl 3 rfl) ?_
              refine va_get (D := (dC, dI)) (ci := 6) (v := .ref ry) (C := RX7) (T := TX7) (N := 4) hx hb hts inX7 hown hK hP 0 rfl rfl 1 (by decide) (hts _ mw_168) (fun _ h9 => h9) rfl dX7_pull_89 ?_
              refine lv_iload hx hb dX7_pull_92 (lv_at hl 1 rfl) ?_
              refine lv_dup2_11 hx hb dX7_pull_94 rfl rfl ?_
              refine z_iald hx hb hK hP 2 0 rfl rfl (e := i) rfl (by omega) (by omega) dX7_pull_95 ?_
              refine lv_iload_n hx hb dX7_pull_96 rfl (lv_at hl 6 rfl) ?_
              refine lv_iload hx hb dX7_pull_97 (lv_at hl 2 rfl) ?_
              refine lv_iload hx hb dX7_pull_99 (lv_at hl 0 rfl) ?_
              refine zz_i (v := nI (wyR kf n kk i)) (zn_eq (by unfold wyR; first | (rw [if_pos (by omega)]) | (rw [if_neg (by omega)]))) ?_
              refine lv_isub hx hb dX7_pull_101 ?_
              refine zz_i (v := nI ((rr + 1) - (wyR kf n kk i))) (pk_sub (a := rr + 1) (b := wyR kf n kk i) (by omega)) ?_
              refine lv_imul hx hb dX7_pull_102 ?_
              refine lv_iload hx hb dX7_pull_103 (lv_at hl 2 rfl) ?_
              refine lv_idiv hx hb dX7_pull_105 (nI_ne0 (by omega) (by omega)) ?_
              refine lv_iadd hx hb dX7_pull_106 ?_
              refine z_iast hx hb hK hP hD hS 2 0 rfl rfl (e := i) (x := (Y1 i) + ((dy * (nI ((rr + 1) - (wyR kf n kk i)))) / (nI (rr + 1)))) rfl (by omega) (by omega) dX7_pull_107 (fun H locs hP hD hS => ?_)
              have hP : va_P (dC, dI) classes [(oc6 r (.ref rx) (.ref ry) (nI n) rg), (oa rx cI cap (upd X1 i ((X1 i) + ((dx * (nI ((rr + 1) - (wyR kf n kk i)))) / (nI (rr + 1)))))), (oa ry cI cap (upd Y1 i ((Y1 i) + ((dy * (nI ((rr + 1) - (wyR kf n kk i)))) / (nI (rr + 1))))))] H := hP
              have hD : va_D A [(oc6 r (.ref rx) (.ref ry) (nI n) rg), (oa rx cI cap (upd X1 i ((X1 i) + ((dx * (nI ((rr + 1) - (wyR kf n kk i)))) / (nI (rr + 1)))))), (oa ry cI cap (upd Y1 i ((Y1 i) + ((dy * (nI ((rr + 1) - (wyR kf n kk i)))) / (nI (rr + 1))))))] := hD
              refine lv_iinc (v := nI (i + 1)) (lv' := [(6, .int (nI (i + 1))), (7, .int (nI (Int.natAbs (((i : Nat) : Int) - ((kk : Nat) : Int))))), (5, .int (nI (rr + 1))), (0, .ref r), (1, .int (nI kk)), (2, .int dx), (3, .int dy), (4, .int (nI rr))]) hx hb dX7_pull_108 hl (k := 1) rfl (nI_add i 1) (by decide) rfl (fun ls hl => ?_)
              refine lv_goto (tgt := 13) hx hb dX7_pull_111 (by decide) ?_
              exact ih_13 (i + 1) (upd X1 i ((X1 i) + ((dx * (nI ((rr + 1) - (wyR kf n kk i)))) / (nI (rr + 1))))) (upd Y1 i ((Y1 i) + ((dy * (nI ((rr + 1) - (wyR kf n kk i)))) / (nI (rr + 1))))) H locs ls (by omega) (by omega) (by intro j hj; rcases Nat.lt_or_ge j i with h | h; (first | exact hlo j h | (simp only [upd, if_neg (show j ≠ i by omega)]; exact hlo j h)); rw [show j = i by omega]; first | (simp only [upd, if_true]; rw [(hhi i (Nat.le_refl _)).1, (hhi i (Nat.le_refl _)).2]; exact ⟨shV_f hst9, shV_f hst9⟩) | (rw [(hhi i (Nat.le_refl _)).1, (hhi i (Nat.le_refl _)).2]; have h9 : rr < wyR kf n kk i ∨ (¬ 5 ≤ kf ∧ (i = 0 ∨ i = n - 1)) := (by first | exact Or.inl (by omega) | exact Or.inr ⟨by omega, by omega⟩); exact ⟨shV_t h9, shV_t h9⟩)) (by intro j hj; first | exact hhi j (by omega) | (simp only [upd, if_neg (show j ≠ i by omega)]; exact hhi j (by omega))) hP hD hS (lv_sub hl [0, 2, 3, 4, 5, 6, 7] rfl)
        · have c_3 : ¬ rg.toInt = 0 := zc_ne rfl (by decide) c_3
          refine lv_iload hx hb dX7_pull_38 (lv_at hl 0 rfl) ?_
          refine lv_aload_n hx hb dX7_pull_40 rfl (lv_at hl 3 rfl) ?_
          refine va_get (D := (dC, dI)) (ci := 6) (v := .int (nI n)) (C := RX7) (T := TX7) (N := 4) hx hb hts inX7 hown hK hP 0 rfl rfl 2 (by decide) (hts _ mw_175) (fun _ h9 => h9) rfl dX7_pull_41 ?_
          refine lv_iload hx hb dX7_pull_44 (lv_at hl 0 rfl) ?_
          refine lv_isub hx hb dX7_pull_46 ?_
          refine zz_i (v := nI (n - (Int.natAbs (((i : Nat) : Int) - ((kk : Nat) : Int))))) (pk_sub (a := n) (b := Int.natAbs (((i : Nat) : Int) - ((kk : Nat) : Int))) (by omega)) ?_
          refine va_mmin hx hb (by rw [hml]; exact hl.1.symm) hown (hts _ mw_895) (hts _ mw_858) (hts _ mw_103) (hts _ mw_mincode) (Nat.le_of_ble_eq_true rfl) (Nat.le_of_ble_eq_true rfl) (Nat.le_of_ble_eq_true rfl) (Nat.le_of_ble_eq_true rfl) dX7_pull_47 ?_
          refine lv_topi (fun v_6 ev_6 => ?_)
          have hv_6 : v_6.toInt = min ((Int.natAbs (((i : Nat) : Int) - ((kk : Nat) : Int)) : Nat) : Int) ((n - (Int.natAbs (((i : Nat) : Int) - ((kk : Nat) : Int))) : Nat) : Int) := zmin (nI_toInt (by omega)) (nI_toInt (by omega)) ev_6
          refine zz_i (v := nI (min (Int.natAbs (((i : Nat) : Int) - ((kk : Nat) : Int))) (n - Int.natAbs (((i : Nat) : Int) - ((kk : Nat) : Int))))) (Int32.toInt_inj.mp (by rw [hv_6, nI_toInt (by omega)]; omega)) ?_
          refine lv_istore (lv' := [(7, .int (nI (min (Int.natAbs (((i : Nat) : Int) - ((kk : Nat) : Int))) (n - Int.natAbs (((i : Nat) : Int) - ((kk : Nat) : Int)))))), (6, .int (nI i)), (5, .int (nI (rr + 1))), (0, .ref r), (1, .int (nI kk)), (2, .int dx), (3, .int dy), (4, .int (nI rr))]) hx hb dX7_pull_50 hl (by decide) rfl (fun ls hl => ?_)
          refine lv_iload hx hb dX7_pull_52 (lv_at hl 0 rfl) ?_
          refine zz_i (v := nI (wyR kf n kk i)) (zn_eq (by unfold wyR; first | (rw [if_pos (by omega)]) | (rw [if_neg (by omega)]))) ?_
          refine lv_iload hx hb dX7_pull_54 (lv_at hl 2 rfl) ?_
          refine lv_icmp_ge (tgt := 108) hx hb dX7_pull_56 (by decide) (fun c_7 => ?_) (fun c_7 => ?_)
          · have c_7 : ((rr + 1 : Nat) : Int) ≤ ((wyR kf n kk i : Nat) : Int) := zc_le (nI_toInt (by omega)) (nI_toInt (by omega)) c_7
            refine lv_iinc (v := nI (i + 1)) (lv' := [(6, .int (nI (i + 1))), (7, .int (nI (min (Int.natAbs (((i : Nat) : Int) - ((kk : Nat) : Int))) (n - Int.natAbs (((i : Nat) : Int) - ((kk : Nat) : Int)))))), (5, .int (nI (rr + 1))), (0, .ref r), (1, .int (nI kk)), (2, .int dx), (3, .int dy), (4, .int (nI rr))]) hx hb dX7_pull_108 hl (k := 1) rfl (nI_add i 1) (by decide) rfl (fun ls hl => ?_)
            refine lv_goto (tgt := 13) hx hb dX7_pull_111 (by decide) ?_
            exact ih_13 (i + 1) X1 Y1 H locs ls (by omega) (by omega) (by intro j hj; rcases Nat.lt_or_ge j i with h | h; (first | exact hlo j h | (simp only [upd, if_neg (show j ≠ i by omega)]; exact hlo j h)); rw [show j = i by omega]; first | (simp only [upd, if_true]; rw [(hhi i (Nat.le_refl _)).1, (hhi i (Nat.le_refl _)).2]; exact ⟨shV_f hst9, shV_f hst9⟩) | (rw [(hhi i (Nat.le_refl _)).1, (hhi i (Nat.le_refl _)).2]; have h9 : rr < wyR kf n kk i ∨ (¬ 5 ≤ kf ∧ (i = 0 ∨ i = n - 1)) := (by first | exact Or.inl (by omega) | exact Or.inr ⟨by omega, by omega⟩); exact ⟨shV_t h9, shV_t h9⟩)) (by intro j hj; first | exact hhi j (by omega) | (simp only [upd, if_neg (show j ≠ i by omega)]; exact hhi j (by omega))) hP hD hS (lv_sub hl [0, 2, 3, 4, 5, 6, 7] rfl)
          · have c_7 : ((wyR kf n kk i : Nat) : Int) < ((rr + 1 : Nat) : Int) := zc_nle (nI_toInt (by omega)) (nI_toInt (by omega)) c_7
            refine lv_aload_n hx hb dX7_pull_59 rfl (lv_at hl 3 rfl) ?_
            refine lv_iload hx hb dX7_pull_60 (lv_at hl 1 rfl) ?_
            have hPc := hP.sub (ws' := [(oc6 r (.ref rx) (.ref ry) (nI n) rg), (oa rx cI cap X1), (oa ry cI cap Y1)]) [0, 1, 2] rfl
            have hDc := hD.sub (ws' := [(oc6 r (.ref rx) (.ref ry) (nI n) rg), (oa rx cI cap X1), (oa ry cI cap Y1)]) [0, 1, 2] (by decide) rfl
            have hFc := va_free (wc := [(oc6 r (.ref rx) (.ref ry) (nI n) rg), (oa rx cI cap X1), (oa ry cI cap Y1)]) hD hS hA [0, 1, 2] rfl
            refine zcall (st1 := [.int (pI (rg.toInt = 0 ∧ (i = 0 ∨ i = n - 1)))]) (va_runV (As := [.int (nI i)]) (rest := []) ⟨hx, hb, hml, hown, hts⟩ (k_Row_isEnd l dC dI cI cZ cF H.size r rx ry n cap X1 Y1 rg i (by omega) (by omega) (by omega)) (cwV 1 hts (zz_gV mw_871 mw_577 mw_578 mw_102 mc_yX7_isEnd) rfl rfl rfl (by decide +kernel) ⟨Nat.le_of_ble_eq_true rfl, Nat.le_of_ble_eq_true rfl⟩) (zPV2 (q0 := 0) (ci := 6) hPc hDc hK hXN rfl rfl) rfl rfl hl.1 rfl (lv_room (Nat.le_of_ble_eq_true rfl)) dX7_pull_62 ⟨Nat.le_of_ble_eq_true rfl, Nat.le_of_ble_eq_true rfl⟩) hS hFc hFc rfl (fun t H1 locs ht hB hk1 hS => ?_)
            obtain ⟨hP1, hD1⟩ := hB
            rw [ht] at hP1
            obtain ⟨hP, hD⟩ := va_join (wr := []) (w1 := [(oc6 r (.ref rx) (.ref ry) (nI n) rg), (oa rx cI cap X1), (oa ry cI cap Y1)]) hP hD [0, 1, 2] [] rfl rfl (by decide) (by decide) hk1 hFc hP1 hD1
            clear hk1 hPc hDc hFc hP1 hD1 ht
            generalize H1 = H at hP hS ⊢
            have hP : va_P (dC, dI) classes [(oc6 r (.ref rx) (.ref ry) (nI n) rg), (oa rx cI cap X1), (oa ry cI cap Y1)] H := hP
            have hD : va_D A [(oc6 r (.ref rx) (.ref ry) (nI n) rg), (oa rx cI cap X1), (oa ry cI cap Y1)] := hD
            refine lv_if_ne (tgt := 108) hx hb dX7_pull_65 (by decide) (fun c_8 => ?_) (fun c_8 => ?_)
            · have c_8 : rg.toInt = 0 ∧ (i = 0 ∨ i = n - 1) := zp_1 c_8
              refine lv_iinc (v := nI (i + 1)) (lv' := [(6, .int (nI (i + 1))), (7, .int (nI (min (Int.natAbs (((i : Nat) : Int) - ((kk : Nat) : Int))) (n - Int.natAbs (((i : Nat) : Int) - ((kk : Nat) : Int)))))), (5, .int (nI (rr + 1))), (0, .ref r), (1, .int (nI kk)), (2, .int dx), (3, .int dy), (4, .int (nI rr))]) hx hb dX7_pull_108 hl (k := 1) rfl (nI_add i 1) (by decide) rfl (fun ls hl => ?_)
              refine lv_goto (tgt := 13) hx hb dX7_pull_111 (by decide) ?_
              exact ih_13 (i + 1) X1 Y1 H locs ls (by omega) (by omega) (by intro j hj; rcases Nat.lt_or_ge j i with h | h; (first | exact hlo j h | (simp only [upd, if_neg (show j ≠ i by omega)]; exact hlo j h)); rw [show j = i by omega]; first | (simp only [upd, if_true]; rw [(hhi i (Nat.le_refl _)).1, (hhi i (Nat.le_refl _)).2]; exact ⟨shV_f hst9, shV_f hst9⟩) | (rw [(hhi i (Nat.le_refl _)).1, (hhi i (Nat.le_refl _)).2]; have h9 : rr < wyR kf n kk i ∨ (¬ 5 ≤ kf ∧ (i = 0 ∨ i = n - 1)) := (by first | exact Or.inl (by omega) | exact Or.inr ⟨by omega, by omega⟩); exact ⟨shV_t h9, shV_t h9⟩)) (by intro j hj; first | exact hhi j (by omega) | (simp only [upd, if_neg (show j ≠ i by omega)]; exact hhi j (by omega))) hP hD hS (lv_sub hl [0, 2, 3, 4, 5, 6, 7] rfl)
            · have c_8 : ¬ (rg.toInt = 0 ∧ (i = 0 ∨ i = n - 1)) := zp_0 c_8
              have hst9 : ¬ (rr < wyR kf n kk i ∨ (¬ 5 ≤ kf ∧ (i = 0 ∨ i = n - 1))) := (by omega)
              refine lv_aload_n hx hb dX7_pull_68 rfl (lv_at hl 3 rfl) ?_
              refine va_get (D := (dC, dI)) (ci := 6) (v := .ref rx) (C := RX7) (T := TX7) (N := 4) hx hb hts inX7 hown hK hP 0 rfl rfl 0 (by decide) (hts _ mw_161) (fun _ h9 => h9) rfl dX7_pull_69 ?_
              refine lv_iload hx hb dX7_pull_72 (lv_at hl 1 rfl) ?_
              refine lv_dup2_11 hx hb dX7_pull_74 rfl rfl ?_
              refine z_iald hx hb hK hP 1 0 rfl rfl (e := i) rfl (by omega) (by omega) dX7_pull_75 ?_
              refine lv_iload_n hx hb dX7_pull_76 rfl (lv_at hl 5 rfl) ?_
              refine lv_iload hx hb dX7_pull_77 (lv_at hl 2 rfl) ?_
              refine lv_iload hx hb dX7_pull_79 (lv_at hl 0 rfl) ?_
              refine zz_i (v := nI (wyR kf n kk i)) (zn_eq (by unfold wyR; first | (rw [if_pos (by omega)]) | (rw [if_neg (by omega)]))) ?_
              refine lv_isub hx hb dX7_pull_81 ?_
              refine zz_i (v := nI ((rr + 1) - (wyR kf n kk i))) (pk_sub (a := rr + 1) (b := wyR kf n kk i) (by omega)) ?_
              refine lv_imul hx hb dX7_pull_82 ?_
              refine lv_iload hx hb dX7_pull_83 (lv_at hl 2 rfl) ?_
              refine lv_idiv hx hb dX7_pull_85 (nI_ne0 (by omega) (by omega)) ?_
              refine lv_iadd hx hb dX7_pull_86 ?_
              refine z_iast hx hb hK hP hD hS 1 0 rfl rfl (e := i) (x := (X1 i) + ((dx * (nI ((rr + 1) - (wyR kf n kk i)))) / (nI (rr + 1)))) rfl (by omega) (by omega) dX7_pull_87 (fun H locs hP hD hS => ?_)
              have hP : va_P (dC, dI) classes [(oc6 r (.ref rx) (.ref ry) (nI n) rg), (oa rx cI cap (upd X1 i ((X1 i) + ((dx * (nI ((rr + 1) - (wyR kf n kk i)))) / (nI (rr + 1)))))), (oa ry cI cap Y1)] H := hP
              have hD : va_D A [(oc6 r (.ref rx) (.ref ry) (nI n) rg), (oa rx cI cap (upd X1 i ((X1 i) + ((dx * (nI ((rr + 1) - (wyR kf n kk i)))) / (nI (rr + 1)))))), (oa ry cI cap Y1)] := hD
              refine lv_aload_n hx hb dX7_pull_88 rfl (lv_at hl 3 rfl) ?_
              refine va_get (D := (dC, dI)) (ci := 6) (v := .ref ry) (C := RX7) (T := TX7) (N := 4) hx hb hts inX7 hown hK hP 0 rfl rfl 1 (by decide) (hts _ mw_168) (fun _ h9 => h9) rfl dX7_pull_89 ?_
              refine lv_iload hx hb dX7_pull_92 (lv_at hl 1 rfl) ?_
              refine lv_dup2_11 hx hb dX7_pull_94 rfl rfl ?_
              refine z_iald hx hb hK hP 2 0 rfl rfl (e := i) rfl (by omega) (by omega) dX7_pull_95 ?_
              refine lv_iload_n hx hb dX7_pull_96 rfl (lv_at hl 6 rfl) ?_
              refine lv_iload hx hb dX7_pull_97 (lv_at hl 2 rfl) ?_
              refine lv_iload hx hb dX7_pull_99 (lv_at hl 0 rfl) ?_
              refine zz_i (v := nI (wyR kf n kk i)) (zn_eq (by unfold wyR; first | (rw [if_pos (by omega)]) | (rw [if_neg (by omega)]))) ?_
              refine lv_isub hx hb dX7_pull_101 ?_
              refine zz_i (v := nI ((rr + 1) - (wyR kf n kk i))) (pk_sub (a := rr + 1) (b := wyR kf n kk i) (by omega)) ?_
              refine lv_imul hx hb dX7_pull_102 ?_
              refine lv_iload hx hb dX7_pull_103 (lv_at hl 2 rfl) ?_
              refine lv_idiv hx hb dX7_pull_105 (nI_ne0 (by omega) (by omega)) ?_
              refine lv_iadd hx hb dX7_pull_106 ?_
              refine z_iast hx hb hK hP hD hS 2 0 rfl rfl (e := i) (x := (Y1 i) + ((dy * (nI ((rr + 1) - (wyR kf n kk i)))) / (nI (rr + 1)))) rfl (by omega) (by omega) dX7_pull_107 (fun H locs hP hD hS => ?_)
              have hP : va_P (dC, dI) classes [(oc6 r (.ref rx) (.ref ry) (nI n) rg), (oa rx cI cap (upd X1 i ((X1 i) + ((dx * (nI ((rr + 1) - (wyR kf n kk i)))) / (nI (rr + 1)))))), (oa ry cI cap (upd Y1 i ((Y1 i) + ((dy * (nI ((rr + 1) - (wyR kf n kk i)))) / (nI (rr + 1))))))] H := hP
              have hD : va_D A [(oc6 r (.ref rx) (.ref ry) (nI n) rg), (oa rx cI cap (upd X1 i ((X1 i) + ((dx * (nI ((rr + 1) - (wyR kf n kk i)))) / (nI (rr + 1)))))), (oa ry cI cap (upd Y1 i ((Y1 i) + ((dy * (nI ((rr + 1) - (wyR kf n kk i)))) / (nI (rr + 1))))))] := hD
              refine lv_iinc (v := nI (i + 1)) (lv' := [(6, .int (nI (i + 1))), (7, .int (nI (min (Int.natAbs (((i : Nat) : Int) - ((kk : Nat) : Int))) (n - Int.natAbs (((i : Nat) : Int) - ((kk : Nat) : Int)))))), (5, .int (nI (rr + 1))), (0, .ref r), (1, .int (nI kk)), (2, .int dx), (3, .int dy), (4, .int (nI rr))]) hx hb dX7_pull_108 hl (k := 1) rfl (nI_add i 1) (by decide) rfl (fun ls hl => ?_)
              refine lv_goto (tgt := 13) hx hb dX7_pull_111 (by decide) ?_
              exact ih_13 (i + 1) (upd X1 i ((X1 i) + ((dx * (nI ((rr + 1) - (wyR kf n kk i)))) / (nI (rr + 1))))) (upd Y1 i ((Y1 i) + ((dy * (nI ((rr + 1) - (wyR kf n kk i)))) / (nI (rr + 1))))) H locs ls (by omega) (by omega) (by intro j hj; rcases Nat.lt_or_ge j i with h | h; (first | exact hlo j h | (simp only [upd, if_neg (show j ≠ i by omega)]; exact hlo j h)); rw [show j = i by omega]; first | (simp only [upd, if_true]; rw [(hhi i (Nat.le_refl _)).1, (hhi i (Nat.le_refl _)).2]; exact ⟨shV_f hst9, shV_f hst9⟩) | (rw [(hhi i (Nat.le_refl _)).1, (hhi i (Nat.le_refl _)).2]; have h9 : rr < wyR kf n kk i ∨ (¬ 5 ≤ kf ∧ (i = 0 ∨ i = n - 1)) := (by first | exact Or.inl (by omega) | exact Or.inr ⟨by omega, by omega⟩); exact ⟨shV_t h9, shV_t h9⟩)) (by intro j hj; first | exact hhi j (by omega) | (simp only [upd, if_neg (show j ≠ i by omega)]; exact hhi j (by omega))) hP hD hS (lv_sub hl [0, 2, 3, 4, 5, 6, 7] rfl)
  exact hl_13 _ 0 X Y s.heap [] ls (Nat.lt_succ_self _) (by omega) (by intro j hj; omega) (by intro j hj; exact ⟨rfl, rfl⟩) hP hD hS (lv_sub hl [0, 1, 2, 3, 4, 5, 6] rfl)
