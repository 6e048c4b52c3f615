set_option maxHeartbeats 4000000 in
set_option maxRecDepth 100000 in
theorem k_M_plainFraction (l : Launch) (dC : Nat → ClassId) (dI : Nat → Nat → Nat) (cI cZ cF : ClassId) (sz : Nat) (k0 : Nat) (a : Nat → Nat) (I0 : Nat → Int32) (J0 : Nat → Int64) (un : Nat) (dd : Nat) (hun : un ≤ 4000000000000) (hdd : 1 ≤ dd ∧ dd ≤ 2000000) : Met l yX11_plainFraction (.code yX11_plainFraction cX11_plainFraction 7 none :: ws0) ({ frames := 0, cells := 0, slots := 0, locals := 0 } : Room) (va_Pc [.ref k0] (zPre (dC, dI) classes (zTy cI cZ cF) [(om k0 a I0 (vp_updL (vp_updL J0 48 (jI ((un : Nat) : Int))) 49 (jI ((dd : Nat) : Int))))] sz zXN)) (zQ none (fun t => va_P (dC, dI) classes [(om k0 a I0 (vp_updL (vp_updL J0 48 (jI ((un / Nat.gcd un dd : Nat) : Int))) 49 (jI ((dd / Nat.gcd un dd : Nat) : Int))))] t.heap ∧ va_D (va_A [(om k0 a I0 (vp_updL (vp_updL J0 48 (jI ((un : Nat) : Int))) 49 (jI ((dd : Nat) : Int))))] sz) [(om k0 a I0 (vp_updL (vp_updL J0 48 (jI ((un / Nat.gcd un dd : Nat) : Int))) 49 (jI ((dd / Nat.gcd un dd : Nat) : Int))))]) (va_A [(om k0 a I0 (vp_updL (vp_updL J0 48 (jI ((un : Nat) : Int))) 49 (jI ((dd : Nat) : Int))))] sz)) 0 0 (va_A [(om k0 a I0 (vp_updL (vp_updL J0 48 (jI ((un : Nat) : Int))) 49 (jI ((dd : Nat) : Int))))] sz) := by
  refine Met.ofW (cc := cX11_plainFraction) (maxL := 7) (ret := none) (by decide) rfl ?_
  intro p e s m args below meth c s₁ B hml hv
  obtain ⟨rfl, hsz, hP, hK, hD0, hXN⟩ := hv
  have hx := B.exec
  have hb := B.bytes
  have hr := B.returns
  have hts0 := atoms_spec (ws := .code yX11_plainFraction cX11_plainFraction 7 none :: ws0) B.pre
  have hts : ∀ w9 ∈ ws0, w9.before ([.ref k0] : List Value).toArray s = true := fun w9 h => hts0 w9 (List.mem_cons_of_mem _ h)
  have hown : s.vm.findClass "ScaleShopModel" = some m.cls := findClass_of_methodNamed B.named
  have hlocks := B.notSynchronized
  subst hsz
  have hD := hD0.self (sz := s.heap.size)
  clear hD0
  generalize hAe : va_A [(om k0 a I0 (vp_updL (vp_updL J0 48 (jI ((un : Nat) : Int))) 49 (jI ((dd : Nat) : Int))))] s.heap.size = A at hD ⊢
  have hA : ∀ q : Nat, s.heap.size ≤ q → A q := fun q h => by rw [← hAe]; exact Or.inr h
  clear hAe
  have hS : va_S A s.heap s.heap [] := va_S.rf
  have hP : va_P (dC, dI) classes [(om k0 a I0 (vp_updL (vp_updL J0 48 (jI ((un : Nat) : Int))) 49 (jI ((dd : Nat) : Int))))] s.heap := hP
  obtain ⟨Q9, hQ9⟩ : ∃ Q9 : State → Prop, Q9 = MQ below (zQ none (fun t => va_P (dC, dI) classes [(om k0 a I0 (vp_updL (vp_updL J0 48 (jI ((un / Nat.gcd un dd : Nat) : Int))) 49 (jI ((dd / Nat.gcd un dd : Nat) : Int))))] t.heap ∧ va_D A [(om k0 a I0 (vp_updL (vp_updL J0 48 (jI ((un / Nat.gcd un dd : Nat) : Int))) 49 (jI ((dd / Nat.gcd un dd : Nat) : Int))))]) A) ([.ref k0] : List Value).toArray s 0 0 A := ⟨_, rfl⟩
  rw [← hQ9]
  have hl := lv_entry ([.ref k0]) (n := 7) (Nat.le_of_ble_eq_true rfl)
  rw [lg_entry_eq]
  generalize (lg_sl ([.ref k0]) ++ List.replicate (7 - (lg_sl ([.ref k0])).length) Slot.unset).toArray = ls at hl ⊢
  have hl : lv_has ls 7 [(0, .ref k0)] := hl
  refine lv_aload_n hx hb dX11_plainFraction_0 rfl (lv_at hl 0 rfl) ?_
  refine va_get (D := (dC, dI)) (ci := 9) (v := .long (jI ((un : Nat) : Int))) (C := RX11) (T := TX11) (N := 55) hx hb hts inX11 hown hK hP 0 rfl rfl 48 (by decide) (hts _ mw_1207) (fun _ h9 => h9) rfl dX11_plainFraction_1 ?_
  refine lv_lstore_n (lv' := [(1, .long (jI ((un : Nat) : Int))), (0, .ref k0)]) hx hb dX11_plainFraction_4 rfl hl (by decide) rfl (fun ls hl => ?_)
  refine lv_aload_n hx hb dX11_plainFraction_5 rfl (lv_at hl 1 rfl) ?_
  refine va_get (D := (dC, dI)) (ci := 9) (v := .long (jI ((dd : Nat) : Int))) (C := RX11) (T := TX11) (N := 55) hx hb hts inX11 hown hK hP 0 rfl rfl 49 (by decide) (hts _ mw_1208) (fun _ h9 => h9) rfl dX11_plainFraction_6 ?_
  refine lv_lstore_n (lv' := [(3, .long (jI ((dd : Nat) : Int))), (1, .long (jI ((un : Nat) : Int))), (0, .ref k0)]) hx hb dX11_plainFraction_9 rfl hl (by decide) rfl (fun ls hl => ?_)
  have hl_10 : ∀ (n9 : Nat) (aa : Nat) (bb : Nat) (H : Heap) (locs : List Loc) (ls : Array Slot), aa < n9 → (aa ≤ 4000000000000 ∧ bb ≤ 4000000000000) → (Nat.gcd aa bb = Nat.gcd un dd) → va_P (dC, dI) classes [(om k0 a I0 (vp_updL (vp_updL J0 48 (jI ((un : Nat) : Int))) 49 (jI ((dd : Nat) : Int))))] H → va_D A [(om k0 a I0 (vp_updL (vp_updL J0 48 (jI ((un : Nat) : Int))) 49 (jI ((dd : Nat) : Int))))] → va_S A s.heap H locs → lv_has ls 7 [(3, .long (jI ((bb : Nat) : Int))), (1, .long (jI ((aa : Nat) : Int))), (0, .ref k0)] → W p l e ((headSpec (.code yX11_plainFraction cX11_plainFraction 7 none :: ws0) ({ frames := 0, cells := 0, slots := 0, locals := 0 } : Room)).room) s m ([.ref k0] : List Value).toArray below meth c H locs 0 0 Q9 (F0 m 10 ls []) := by
    intro n9
    induction n9 with
    | zero => intro aa bb H locs ls hm; exact absurd hm (Nat.not_lt_zero _)
    | succ n9 ih_10 =>
      intro aa bb H locs ls hm hab hgc hP hD hS hl
      refine lv_lload_n hx hb dX11_plainFraction_10 rfl (lv_at hl 1 rfl) ?_
      refine lv_lconst (v := 0) hx hb dX11_plainFraction_11 (by decide) ?_
      refine W.lcmp hx hb dX11_plainFraction_12 ?_
      refine lv_if_eq (tgt := 29) hx hb dX11_plainFraction_13 (by decide) (fun c_1 => ?_) (fun c_1 => ?_)
      · have c_1 : ((aa : Nat) : Int) = 0 := zl_eq (jI_toInt (by omega)) (by decide) c_1
        have hbg : bb = Nat.gcd un dd := (by rw [← hgc, show aa = 0 by omega, Nat.gcd_zero_left])
        have hgp : 0 < bb := (by rw [hbg]; exact Nat.gcd_pos_of_pos_right un (by omega))
        refine lv_aload_n hx hb dX11_plainFraction_29 rfl (lv_at hl 2 rfl) ?_
        refine lv_dup hx hb dX11_plainFraction_30 rfl ?_
        refine va_get (D := (dC, dI)) (ci := 9) (v := .long (jI ((un : Nat) : Int))) (C := RX11) (T := TX11) (N := 55) hx hb hts inX11 hown hK hP 0 rfl rfl 48 (by decide) (hts _ mw_1207) (fun _ h9 => h9) rfl dX11_plainFraction_31 ?_
        refine lv_lload_n hx hb dX11_plainFraction_34 rfl (lv_at hl 0 rfl) ?_
        refine lv_ldiv hx hb dX11_plainFraction_35 (jN_ne hgp (by omega)) ?_
        refine zz_l (v := jI ((un / Nat.gcd un dd : Nat) : Int)) (by rw [jN_div hgp (by omega) (by omega), hbg]) ?_
        refine va_put (D := (dC, dI)) (ci := 9) (v := .long (jI ((un / Nat.gcd un dd : Nat) : Int))) (ty := .long) (C := RX11) (T := TX11) (N := 55) hx hb hts inX11 tyX11 tyX11_ok nmX11 hown hK hP hD hS 0 rfl rfl 48 (by decide) (hts _ mw_1207) (fun _ h9 => h9) rfl (by decide +kernel) rfl rfl (Nat.le_of_ble_eq_true rfl) dX11_plainFraction_36 (fun H locs hP hD hS => ?_)
        have hP : va_P (dC, dI) classes [(om k0 a I0 (vp_updL (vp_updL J0 48 (jI ((un / Nat.gcd un dd : Nat) : Int))) 49 (jI ((dd : Nat) : Int))))] H := hP
        have hD : va_D A [(om k0 a I0 (vp_updL (vp_updL J0 48 (jI ((un / Nat.gcd un dd : Nat) : Int))) 49 (jI ((dd : Nat) : Int))))] := hD
        refine lv_aload_n hx hb dX11_plainFraction_39 rfl (lv_at hl 2 rfl) ?_
        refine lv_dup hx hb dX11_plainFraction_40 rfl ?_
        refine va_get (D := (dC, dI)) (ci := 9) (v := .long (jI ((dd : Nat) : Int))) (C := RX11) (T := TX11) (N := 55) hx hb hts inX11 hown hK hP 0 rfl rfl 49 (by decide) (hts _ mw_1208) (fun _ h9 => h9) rfl dX11_plainFraction_41 ?_
        refine lv_lload_n hx hb dX11_plainFraction_44 rfl (lv_at hl 0 rfl) ?_
        refine lv_ldiv hx hb dX11_plainFraction_45 (jN_ne hgp (by omega)) ?_
        refine zz_l (v := jI ((dd / Nat.gcd un dd : Nat) : Int)) (by rw [jN_div hgp (by omega) (by omega), hbg]) ?_
        refine va_put (D := (dC, dI)) (ci := 9) (v := .long (jI ((dd / Nat.gcd un dd : Nat) : Int))) (ty := .long) (C := RX11) (T := TX11) (N := 55) hx hb hts inX11 tyX11 tyX11_ok nmX11 hown hK hP hD hS 0 rfl rfl 49 (by decide) (hts _ mw_1208) (fun _ h9 => h9) rfl (by decide +kernel) rfl rfl (Nat.le_of_ble_eq_true rfl) dX11_plainFraction_46 (fun H locs hP hD hS => ?_)
        have hP : va_P (dC, dI) classes [(om k0 a I0 (vp_updL (vp_updL J0 48 (jI ((un / Nat.gcd un dd : Nat) : Int))) 49 (jI ((dd / Nat.gcd un dd : Nat) : Int))))] H := hP
        have hD : va_D A [(om k0 a I0 (vp_updL (vp_updL J0 48 (jI ((un / Nat.gcd un dd : Nat) : Int))) 49 (jI ((dd / Nat.gcd un dd : Nat) : Int))))] := hD
        have hP9 := hP.sub (ws' := [(om k0 a I0 (vp_updL (vp_updL J0 48 (jI ((un / Nat.gcd un dd : Nat) : Int))) 49 (jI ((dd / Nat.gcd un dd : Nat) : Int))))]) [0] rfl
        have hD9 := hD.sub (ws' := [(om k0 a I0 (vp_updL (vp_updL J0 48 (jI ((un / Nat.gcd un dd : Nat) : Int))) 49 (jI ((dd / Nat.gcd un dd : Nat) : Int))))]) [0] (by decide) rfl
        rw [hQ9]
        exact W.vret hx hb hr (fun t ht hW => ⟨⟨rfl, by rw [ht]; exact hP9, hD9⟩, hS.F ht⟩) hS.2.2 dX11_plainFraction_49
      · have c_1 : ¬ ((aa : Nat) : Int) = 0 := zl_ne (jI_toInt (by omega)) (by decide) c_1
        refine lv_lload_n hx hb dX11_plainFraction_16 rfl (lv_at hl 0 rfl) ?_
        refine lv_lload_n hx hb dX11_plainFraction_17 rfl (lv_at hl 1 rfl) ?_
        refine lv_lrem hx hb dX11_plainFraction_18 (jN_ne (by omega) hab.1) ?_
        refine zz_l (v := jI ((bb % aa : Nat) : Int)) (jN_rem (by omega) hab.1 hab.2) ?_
        refine lv_lstore (lv' := [(5, .long (jI ((bb % aa : Nat) : Int))), (3, .long (jI ((bb : Nat) : Int))), (1, .long (jI ((aa : Nat) : Int))), (0, .ref k0)]) hx hb dX11_plainFraction_19 hl (by decide) rfl (fun ls hl => ?_)
        refine lv_lload_n hx hb dX11_plainFraction_21 rfl (lv_at hl 2 rfl) ?_
        refine lv_lstore_n (lv' := [(3, .long (jI ((aa : Nat) : Int))), (5, .long (jI ((bb % aa : Nat) : Int))), (1, .long (jI ((aa : Nat) : Int))), (0, .ref k0)]) hx hb dX11_plainFraction_22 rfl hl (by decide) rfl (fun ls hl => ?_)
        refine lv_lload hx hb dX11_plainFraction_23 (lv_at hl 1 rfl) ?_
        refine lv_lstore_n (lv' := [(1, .long (jI ((bb % aa : Nat) : Int))), (3, .long (jI ((aa : Nat) : Int))), (5, .long (jI ((bb % aa : Nat) : Int))), (0, .ref k0)]) hx hb dX11_plainFraction_25 rfl hl (by decide) rfl (fun ls hl => ?_)
        refine lv_goto (tgt := 10) hx hb dX11_plainFraction_26 (by decide) ?_
        exact ih_10 (bb % aa) aa H locs ls (by have h9 := Nat.mod_lt bb (show 0 < aa by omega); omega) (by have h9 := Nat.mod_lt bb (show 0 < aa by omega); omega) (by rw [← Nat.gcd_rec]; exact hgc) hP hD hS (lv_sub hl [1, 0, 3] rfl)
  exact hl_10 _ un dd s.heap [] ls (Nat.lt_succ_self _) (by omega) (rfl) hP hD hS (lv_sub hl [0, 1, 2] rfl)
