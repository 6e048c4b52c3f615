set_option maxHeartbeats 4000000 in
set_option maxRecDepth 100000 in
theorem k_M_forgetNew (l : Launch) (dC : Nat → ClassId) (dI : Nat → Nat → Nat) (cI cZ cF : ClassId) (sz : Nat) (k0 : Nat) (a : Nat → Nat) (I0 : Nat → Int32) (J0 : Nat → Int64) (f : Nat) (on : Nat) (kd : Nat → Int32) (mn : Nat → Int32) (cx : Nat → Int32) (cy : Nat → Int32) (ox : Nat → Int32) (oy : Nat → Int32) (hf_f : f ≤ 200) (hon : I0 35 = nI on) (ho40 : on ≤ 40) : Met l yX11_forgetNew (.code yX11_forgetNew cX11_forgetNew 3 none :: ws0) ({ frames := 0, cells := 0, slots := 0, locals := 0 } : Room) (va_Pc [.ref k0, .int (nI f)] (zPre (dC, dI) classes (zTy cI cZ cF) [(om k0 a I0 J0), (oa (a 1) cI 201 kd), (oa (a 11) cI 201 mn), (oa (a 12) cI 8040 cx), (oa (a 13) cI 8040 cy), (oa (a 33) cI 42 ox), (oa (a 34) cI 42 oy)] sz zXN)) (zQ none (fun t => ∃ (cx1 : Nat → Int32), ∃ (cy1 : Nat → Int32), (∀ j, j < on → cx1 (40 * f + j) = ox j ∧ cy1 (40 * f + j) = oy j) ∧ (∀ j, (j < 40 * f ∨ 40 * f + on ≤ j) → cx1 j = cx j ∧ cy1 j = cy j) ∧ va_P (dC, dI) classes [(om k0 a I0 J0), (oa (a 1) cI 201 (upd kd f (I0 36))), (oa (a 11) cI 201 (upd mn f (nI on))), (oa (a 12) cI 8040 cx1), (oa (a 13) cI 8040 cy1), (oa (a 33) cI 42 ox), (oa (a 34) cI 42 oy)] t.heap ∧ va_D (va_A [(om k0 a I0 J0), (oa (a 1) cI 201 kd), (oa (a 11) cI 201 mn), (oa (a 12) cI 8040 cx), (oa (a 13) cI 8040 cy), (oa (a 33) cI 42 ox), (oa (a 34) cI 42 oy)] sz) [(om k0 a I0 J0), (oa (a 1) cI 201 (upd kd f (I0 36))), (oa (a 11) cI 201 (upd mn f (nI on))), (oa (a 12) cI 8040 cx1), (oa (a 13) cI 8040 cy1), (oa (a 33) cI 42 ox), (oa (a 34) cI 42 oy)]) (va_A [(om k0 a I0 J0), (oa (a 1) cI 201 kd), (oa (a 11) cI 201 mn), (oa (a 12) cI 8040 cx), (oa (a 13) cI 8040 cy), (oa (a 33) cI 42 ox), (oa (a 34) cI 42 oy)] sz)) 0 0 (va_A [(om k0 a I0 J0), (oa (a 1) cI 201 kd), (oa (a 11) cI 201 mn), (oa (a 12) cI 8040 cx), (oa (a 13) cI 8040 cy), (oa (a 33) cI 42 ox), (oa (a 34) cI 42 oy)] sz) := by
  refine Met.ofW (cc := cX11_forgetNew) (maxL := 3) (ret := none) (by decide) rfl ?_
  intro p e s m args below meth c s₁ B hml hv
  obtain ⟨rfl, hsz, hP, hK, hD0, hXN⟩ := hv
  have hx := B.exec
  have hb := B.bytes
  have hr := B.returns
  have hts0 := atoms_spec (ws := .code yX11_forgetNew cX11_forgetNew 3 none :: ws0) B.pre
  have hts : ∀ w9 ∈ ws0, w9.before ([.ref k0, .int (nI f)] : List Value).toArray s = true := fun w9 h => hts0 w9 (List.mem_cons_of_mem _ h)
  have hown : s.vm.findClass "ScaleShopModel" = some m.cls := findClass_of_methodNamed B.named
  have hlocks := B.notSynchronized
  subst hsz
  have hD := hD0.self (sz := s.heap.size)
  clear hD0
  generalize hAe : va_A [(om k0 a I0 J0), (oa (a 1) cI 201 kd), (oa (a 11) cI 201 mn), (oa (a 12) cI 8040 cx), (oa (a 13) cI 8040 cy), (oa (a 33) cI 42 ox), (oa (a 34) cI 42 oy)] s.heap.size = A at hD ⊢
  have hA : ∀ q : Nat, s.heap.size ≤ q → A q := fun q h => by rw [← hAe]; exact Or.inr h
  clear hAe
  have hS : va_S A s.heap s.heap [] := va_S.rf
  have hP : va_P (dC, dI) classes [(om k0 a I0 J0), (oa (a 1) cI 201 kd), (oa (a 11) cI 201 mn), (oa (a 12) cI 8040 cx), (oa (a 13) cI 8040 cy), (oa (a 33) cI 42 ox), (oa (a 34) cI 42 oy)] s.heap := hP
  obtain ⟨Q9, hQ9⟩ : ∃ Q9 : State → Prop, Q9 = MQ below (zQ none (fun t => ∃ (cx1 : Nat → Int32), ∃ (cy1 : Nat → Int32), (∀ j, j < on → cx1 (40 * f + j) = ox j ∧ cy1 (40 * f + j) = oy j) ∧ (∀ j, (j < 40 * f ∨ 40 * f + on ≤ j) → cx1 j = cx j ∧ cy1 j = cy j) ∧ va_P (dC, dI) classes [(om k0 a I0 J0), (oa (a 1) cI 201 (upd kd f (I0 36))), (oa (a 11) cI 201 (upd mn f (nI on))), (oa (a 12) cI 8040 cx1), (oa (a 13) cI 8040 cy1), (oa (a 33) cI 42 ox), (oa (a 34) cI 42 oy)] t.heap ∧ va_D A [(om k0 a I0 J0), (oa (a 1) cI 201 (upd kd f (I0 36))), (oa (a 11) cI 201 (upd mn f (nI on))), (oa (a 12) cI 8040 cx1), (oa (a 13) cI 8040 cy1), (oa (a 33) cI 42 ox), (oa (a 34) cI 42 oy)]) A) ([.ref k0, .int (nI f)] : List Value).toArray s 0 0 A := ⟨_, rfl⟩
  rw [← hQ9]
  have hl := lv_entry ([.ref k0, .int (nI f)]) (n := 3) (Nat.le_of_ble_eq_true rfl)
  rw [lg_entry_eq]
  generalize (lg_sl ([.ref k0, .int (nI f)]) ++ List.replicate (3 - (lg_sl ([.ref k0, .int (nI f)])).length) Slot.unset).toArray = ls at hl ⊢
  have hl : lv_has ls 3 [(0, .ref k0), (1, .int (nI f))] := hl
  refine lv_aload_n hx hb dX11_forgetNew_0 rfl (lv_at hl 0 rfl) ?_
  refine va_get (D := (dC, dI)) (ci := 9) (v := .ref (a 11)) (C := RX11) (T := TX11) (N := 55) hx hb hts inX11 hown hK hP 0 rfl rfl 11 (by decide) (hts _ mw_1170) (fun _ h9 => h9) rfl dX11_forgetNew_1 ?_
  refine lv_iload_n hx hb dX11_forgetNew_4 rfl (lv_at hl 1 rfl) ?_
  refine lv_aload_n hx hb dX11_forgetNew_5 rfl (lv_at hl 0 rfl) ?_
  refine va_get (D := (dC, dI)) (ci := 9) (v := .int (I0 35)) (C := RX11) (T := TX11) (N := 55) hx hb hts inX11 hown hK hP 0 rfl rfl 35 (by decide) (hts _ mw_1194) (fun _ h9 => h9) rfl dX11_forgetNew_6 ?_
  refine zz_i (v := nI on) (hon) ?_
  refine z_iast hx hb hK hP hD hS 2 0 rfl rfl (e := f) (x := nI on) rfl (by omega) (by omega) dX11_forgetNew_9 (fun H locs hP hD hS => ?_)
  have hP : va_P (dC, dI) classes [(om k0 a I0 J0), (oa (a 1) cI 201 kd), (oa (a 11) cI 201 (upd mn f (nI on))), (oa (a 12) cI 8040 cx), (oa (a 13) cI 8040 cy), (oa (a 33) cI 42 ox), (oa (a 34) cI 42 oy)] H := hP
  have hD : va_D A [(om k0 a I0 J0), (oa (a 1) cI 201 kd), (oa (a 11) cI 201 (upd mn f (nI on))), (oa (a 12) cI 8040 cx), (oa (a 13) cI 8040 cy), (oa (a 33) cI 42 ox), (oa (a 34) cI 42 oy)] := hD
  refine lv_aload_n hx hb dX11_forgetNew_10 rfl (lv_at hl 0 rfl) ?_
  refine va_get (D := (dC, dI)) (ci := 9) (v := .ref (a 1)) (C := RX11) (T := TX11) (N := 55) hx hb hts inX11 hown hK hP 0 rfl rfl 1 (by decide) (hts _ mw_1160) (fun _ h9 => h9) rfl dX11_forgetNew_11 ?_
  refine lv_iload_n hx hb dX11_forgetNew_14 rfl (lv_at hl 1 rfl) ?_
  refine lv_aload_n hx hb dX11_forgetNew_15 rfl (lv_at hl 0 rfl) ?_
  refine va_get (D := (dC, dI)) (ci := 9) (v := .int (I0 36)) (C := RX11) (T := TX11) (N := 55) hx hb hts inX11 hown hK hP 0 rfl rfl 36 (by decide) (hts _ mw_1195) (fun _ h9 => h9) rfl dX11_forgetNew_16 ?_
  refine z_iast hx hb hK hP hD hS 1 0 rfl rfl (e := f) (x := I0 36) rfl (by omega) (by omega) dX11_forgetNew_19 (fun H locs hP hD hS => ?_)
  have hP : va_P (dC, dI) classes [(om k0 a I0 J0), (oa (a 1) cI 201 (upd kd f (I0 36))), (oa (a 11) cI 201 (upd mn f (nI on))), (oa (a 12) cI 8040 cx), (oa (a 13) cI 8040 cy), (oa (a 33) cI 42 ox), (oa (a 34) cI 42 oy)] H := hP
  have hD : va_D A [(om k0 a I0 J0), (oa (a 1) cI 201 (upd kd f (I0 36))), (oa (a 11) cI 201 (upd mn f (nI on))), (oa (a 12) cI 8040 cx), (oa (a 13) cI 8040 cy), (oa (a 33) cI 42 ox), (oa (a 34) cI 42 oy)] := hD
  refine lv_iconst (v := 0) hx hb dX11_forgetNew_20 (by decide) ?_
  refine lv_istore_n (lv' := [(2, .int 0), (0, .ref k0), (1, .int (nI f))]) hx hb dX11_forgetNew_21 rfl hl (by decide) rfl (fun ls hl => ?_)
  have hl_22 : ∀ (n9 : Nat) (k : Nat) (cx1 : Nat → Int32) (cy1 : Nat → Int32) (H : Heap) (locs : List Loc) (ls : Array Slot), on - k < n9 → (k ≤ on) → (∀ j, j < k → cx1 (40 * f + j) = ox j ∧ cy1 (40 * f + j) = oy j) → (∀ j, (j < 40 * f ∨ 40 * f + k ≤ j) → cx1 j = cx j ∧ cy1 j = cy j) → va_P (dC, dI) classes [(om k0 a I0 J0), (oa (a 1) cI 201 (upd kd f (I0 36))), (oa (a 11) cI 201 (upd mn f (nI on))), (oa (a 12) cI 8040 cx1), (oa (a 13) cI 8040 cy1), (oa (a 33) cI 42 ox), (oa (a 34) cI 42 oy)] H → va_D A [(om k0 a I0 J0), (oa (a 1) cI 201 (upd kd f (I0 36))), (oa (a 11) cI 201 (upd mn f (nI on))), (oa (a 12) cI 8040 cx1), (oa (a 13) cI 8040 cy1), (oa (a 33) cI 42 ox), (oa (a 34) cI 42 oy)] → va_S A s.heap H locs → lv_has ls 3 [(2, .int (nI k)), (0, .ref k0), (1, .int (nI f))] → W p l e ((headSpec (.code yX11_forgetNew cX11_forgetNew 3 none :: ws0) ({ frames := 0, cells := 0, slots := 0, locals := 0 } : Room)).room) s m ([.ref k0, .int (nI f)] : List Value).toArray below meth c H locs 0 0 Q9 (F0 m 22 ls []) := by
    intro n9
    induction n9 with
    | zero => intro k cx1 cy1 H locs ls hm; exact absurd hm (Nat.not_lt_zero _)
    | succ n9 ih_22 =>
      intro k cx1 cy1 H locs ls hm hk hall hrst hP hD hS hl
      refine lv_iload_n hx hb dX11_forgetNew_22 rfl (lv_at hl 0 rfl) ?_
      refine lv_aload_n hx hb dX11_forgetNew_23 rfl (lv_at hl 1 rfl) ?_
      refine va_get (D := (dC, dI)) (ci := 9) (v := .int (I0 35)) (C := RX11) (T := TX11) (N := 55) hx hb hts inX11 hown hK hP 0 rfl rfl 35 (by decide) (hts _ mw_1194) (fun _ h9 => h9) rfl dX11_forgetNew_24 ?_
      refine zz_i (v := nI on) (hon) ?_
      refine lv_icmp_ge (tgt := 70) hx hb dX11_forgetNew_27 (by decide) (fun c_1 => ?_) (fun c_1 => ?_)
      · have c_1 : ((on : Nat) : Int) ≤ ((k : Nat) : Int) := zc_le (nI_toInt (by omega)) (nI_toInt (by omega)) c_1
        have hP9 := hP.sub (ws' := [(om k0 a I0 J0), (oa (a 1) cI 201 (upd kd f (I0 36))), (oa (a 11) cI 201 (upd mn f (nI on))), (oa (a 12) cI 8040 cx1), (oa (a 13) cI 8040 cy1), (oa (a 33) cI 42 ox), (oa (a 34) cI 42 oy)]) [0, 1, 2, 3, 4, 5, 6] rfl
        have hD9 := hD.sub (ws' := [(om k0 a I0 J0), (oa (a 1) cI 201 (upd kd f (I0 36))), (oa (a 11) cI 201 (upd mn f (nI on))), (oa (a 12) cI 8040 cx1), (oa (a 13) cI 8040 cy1), (oa (a 33) cI 42 ox), (oa (a 34) cI 42 oy)]) [0, 1, 2, 3, 4, 5, 6] (by decide) rfl
        rw [hQ9]
        exact W.vret hx hb hr (fun t ht hW => ⟨⟨rfl, cx1, cy1, (fun j hj => hall j (by omega)), (fun j hj => hrst j (by omega)), by rw [ht]; exact hP9, hD9⟩, hS.F ht⟩) hS.2.2 dX11_forgetNew_70
      · have c_1 : ((k : Nat) : Int) < ((on : Nat) : Int) := zc_nle (nI_toInt (by omega)) (nI_toInt (by omega)) c_1
        refine lv_aload_n hx hb dX11_forgetNew_30 rfl (lv_at hl 1 rfl) ?_
        refine va_get (D := (dC, dI)) (ci := 9) (v := .ref (a 12)) (C := RX11) (T := TX11) (N := 55) hx hb hts inX11 hown hK hP 0 rfl rfl 12 (by decide) (hts _ mw_1171) (fun _ h9 => h9) rfl dX11_forgetNew_31 ?_
        refine lv_bipush (v := 40) hx hb dX11_forgetNew_34 (by decide) ?_
        refine lv_iload_n hx hb dX11_forgetNew_36 rfl (lv_at hl 2 rfl) ?_
        refine lv_imul hx hb dX11_forgetNew_37 ?_
        refine zz_i (v := nI (40 * f)) (pk_mul 40 f) ?_
        refine lv_iload_n hx hb dX11_forgetNew_38 rfl (lv_at hl 0 rfl) ?_
        refine lv_iadd hx hb dX11_forgetNew_39 ?_
        refine zz_i (v := nI (40 * f + k)) (nI_add (40 * f) k) ?_
        refine lv_aload_n hx hb dX11_forgetNew_40 rfl (lv_at hl 1 rfl) ?_
        refine va_get (D := (dC, dI)) (ci := 9) (v := .ref (a 33)) (C := RX11) (T := TX11) (N := 55) hx hb hts inX11 hown hK hP 0 rfl rfl 33 (by decide) (hts _ mw_1192) (fun _ h9 => h9) rfl dX11_forgetNew_41 ?_
        refine lv_iload_n hx hb dX11_forgetNew_44 rfl (lv_at hl 0 rfl) ?_
        refine z_iald hx hb hK hP 5 0 rfl rfl (e := k) rfl (by omega) (by omega) dX11_forgetNew_45 ?_
        refine z_iast hx hb hK hP hD hS 3 0 rfl rfl (e := 40 * f + k) (x := ox k) rfl (by omega) (by omega) dX11_forgetNew_46 (fun H locs hP hD hS => ?_)
        have hP : va_P (dC, dI) classes [(om k0 a I0 J0), (oa (a 1) cI 201 (upd kd f (I0 36))), (oa (a 11) cI 201 (upd mn f (nI on))), (oa (a 12) cI 8040 (upd cx1 (40 * f + k) (ox k))), (oa (a 13) cI 8040 cy1), (oa (a 33) cI 42 ox), (oa (a 34) cI 42 oy)] H := hP
        have hD : va_D A [(om k0 a I0 J0), (oa (a 1) cI 201 (upd kd f (I0 36))), (oa (a 11) cI 201 (upd mn f (nI on))), (oa (a 12) cI 8040 (upd cx1 (40 * f + k) (ox k))), (oa (a 13) cI 8040 cy1), (oa (a 33) cI 42 ox), (oa (a 34) cI 42 oy)] := hD
        refine lv_aload_n hx hb dX11_forgetNew_47 rfl (lv_at hl 1 rfl) ?_
        refine va_get (D := (dC, dI)) (ci := 9) (v := .ref (a 13)) (C := RX11) (T := TX11) (N := 55) hx hb hts inX11 hown hK hP 0 rfl rfl 13 (by decide) (hts _ mw_1172) (fun _ h9 => h9) rfl dX11_forgetNew_48 ?_
        refine lv_bipush (v := 40) hx hb dX11_forgetNew_51 (by decide) ?_
        refine lv_iload_n hx hb dX11_forgetNew_53 rfl (lv_at hl 2 rfl) ?_
        refine lv_imul hx hb dX11_forgetNew_54 ?_
        refine zz_i (v := nI (40 * f)) (pk_mul 40 f) ?_
        refine lv_iload_n hx hb dX11_forgetNew_55 rfl (lv_at hl 0 rfl) ?_
        refine lv_iadd hx hb dX11_forgetNew_56 ?_
        refine zz_i (v := nI (40 * f + k)) (nI_add (40 * f) k) ?_
        refine lv_aload_n hx hb dX11_forgetNew_57 rfl (lv_at hl 1 rfl) ?_
        refine va_get (D := (dC, dI)) (ci := 9) (v := .ref (a 34)) (C := RX11) (T := TX11) (N := 55) hx hb hts inX11 hown hK hP 0 rfl rfl 34 (by decide) (hts _ mw_1193) (fun _ h9 => h9) rfl dX11_forgetNew_58 ?_
        refine lv_iload_n hx hb dX11_forgetNew_61 rfl (lv_at hl 0 rfl) ?_
        refine z_iald hx hb hK hP 6 0 rfl rfl (e := k) rfl (by omega) (by omega) dX11_forgetNew_62 ?_
        refine z_iast hx hb hK hP hD hS 4 0 rfl rfl (e := 40 * f + k) (x := oy k) rfl (by omega) (by omega) dX11_forgetNew_63 (fun H locs hP hD hS => ?_)
        have hP : va_P (dC, dI) classes [(om k0 a I0 J0), (oa (a 1) cI 201 (upd kd f (I0 36))), (oa (a 11) cI 201 (upd mn f (nI on))), (oa (a 12) cI 8040 (upd cx1 (40 * f + k) (ox k))), (oa (a 13) cI 8040 (upd cy1 (40 * f + k) (oy k))), (oa (a 33) cI 42 ox), (oa (a 34) cI 42 oy)] H := hP
        have hD : va_D A [(om k0 a I0 J0), (oa (a 1) cI 201 (upd kd f (I0 36))), (oa (a 11) cI 201 (upd mn f (nI on))), (oa (a 12) cI 8040 (upd cx1 (40 * f + k) (ox k))), (oa (a 13) cI 8040 (upd cy1 (40 * f + k) (oy k))), (oa (a 33) cI 42 ox), (oa (a 34) cI 42 oy)] := hD
        refine lv_iinc (v := nI (k + 1)) (lv' := [(2, .int (nI (k + 1))), (0, .ref k0), (1, .int (nI f))]) hx hb dX11_forgetNew_64 hl (k := 0) rfl (nI_add k 1) (by decide) rfl (fun ls hl => ?_)
        refine lv_goto (tgt := 22) hx hb dX11_forgetNew_67 (by decide) ?_
        exact ih_22 (k + 1) (upd cx1 (40 * f + k) (ox k)) (upd cy1 (40 * f + k) (oy k)) H locs ls (by omega) (by omega) (by intro j hj; rcases Nat.lt_or_ge j k with h | h; simp only [upd, if_neg (show 40 * f + j ≠ 40 * f + k by omega)]; exact hall j h; rw [show j = k by omega]; simp only [upd, if_true]; first | exact ⟨rfl, rfl⟩ | exact ⟨trivial, trivial⟩) (by intro j hj; simp only [upd, if_neg (show j ≠ 40 * f + k by omega)]; exact hrst j (by omega)) hP hD hS (lv_sub hl [0, 1, 2] rfl)
  exact hl_22 _ 0 cx cy H locs ls (Nat.lt_succ_self _) (by omega) (by intro j hj; omega) (by intro j hj; exact ⟨rfl, rfl⟩) hP hD hS (lv_sub hl [0, 1, 2] rfl)
set_option maxHeartbeats 4000000 in
set_option maxRecDepth 100000 in
theorem k_M_give (l : Launch) (dC : Nat → ClassId) (dI : Nat → Nat → Nat) (cI cZ cF : ClassId) (sz : Nat) (k0 : Nat) (a : Nat → Nat) (I0 : Nat → Int32) (J0 : Nat → Int64) (f : Nat) (pn : Nat) (mn : Nat → Int32) (cx : Nat → Int32) (cy : Nat → Int32) (P0 : Nat → Int32) (Q0 : Nat → Int32) (hf_f : f ≤ 200) (hpn : I0 31 = nI pn) (hp40 : pn ≤ 40) : Met l yX11_give (.code yX11_give cX11_give 3 none :: ws0) ({ frames := 0, cells := 0, slots := 0, locals := 0 } : Room) (va_Pc [.ref k0, .int (nI f)] (zPre (dC, dI) classes (zTy cI cZ cF) [(om k0 a I0 J0), (oa (a 11) cI 201 mn), (oa (a 12) cI 8040 cx), (oa (a 13) cI 8040 cy), (oa (a 29) cI 42 P0), (oa (a 30) cI 42 Q0)] sz zXN)) (zQ none (fun t => ∃ (cx1 : Nat → Int32), ∃ (cy1 : Nat → Int32), (∀ j, j < pn → cx1 (40 * f + j) = P0 j ∧ cy1 (40 * f + j) = Q0 j) ∧ (∀ j, (j < 40 * f ∨ 40 * f + pn ≤ j) → cx1 j = cx j ∧ cy1 j = cy j) ∧ va_P (dC, dI) classes [(om k0 a I0 J0), (oa (a 11) cI 201 (upd mn f (nI pn))), (oa (a 12) cI 8040 cx1), (oa (a 13) cI 8040 cy1), (oa (a 29) cI 42 P0), (oa (a 30) cI 42 Q0)] t.heap ∧ va_D (va_A [(om k0 a I0 J0), (oa (a 11) cI 201 mn), (oa (a 12) cI 8040 cx), (oa (a 13) cI 8040 cy), (oa (a 29) cI 42 P0), (oa (a 30) cI 42 Q0)] sz) [(om k0 a I0 J0), (oa (a 11) cI 201 (upd mn f (nI pn))), (oa (a 12) cI 8040 cx1), (oa (a 13) cI 8040 cy1), (oa (a 29) cI 42 P0), (oa (a 30) cI 42 Q0)]) (va_A [(om k0 a I0 J0), (oa (a 11) cI 201 mn), (oa (a 12) cI 8040 cx), (oa (a 13) cI 8040 cy), (oa (a 29) cI 42 P0), (oa (a 30) cI 42 Q0)] sz)) 0 0 (va_A [(om k0 a I0 J0), (oa (a 11) cI 201 mn), (oa (a 12) cI 8040 cx), (oa (a 13) cI 8040 cy), (oa (a 29) cI 42 P0), (oa (a 30) cI 42 Q0)] sz) := by
  refine Met.ofW (cc := cX11_give) (maxL := 3) (ret := none) (by decide) rfl ?_
  intro p e s m args below meth c s₁ B hml hv
  obtain ⟨rfl, hsz, hP, hK, hD0, hXN⟩ := hv
  have hx := B.exec
  have hb := B.bytes
  have hr := B.returns
  have hts0 := atoms_spec (ws := .code yX11_give cX11_give 3 none :: ws0) B.pre
  have hts : ∀ w9 ∈ ws0, w9.before ([.ref k0, .int (nI f)] : List Value).toArray s = true := fun w9 h => hts0 w9 (List.mem_cons_of_mem _ h)
  have hown : s.vm.findClass "ScaleShopModel" = some m.cls := findClass_of_methodNamed B.named
  have hlocks := B.notSynchronized
  subst hsz
  have hD := hD0.self (sz := s.heap.size)
  clear hD0
  generalize hAe : va_A [(om k0 a I0 J0), (oa (a 11) cI 201 mn), (oa (a 12) cI 8040 cx), (oa (a 13) cI 8040 cy), (oa (a 29) cI 42 P0), (oa (a 30) cI 42 Q0)] s.heap.size = A at hD ⊢
  have hA : ∀ q : Nat, s.heap.size ≤ q → A q := fun q h => by rw [← hAe]; exact Or.inr h
  clear hAe
  have hS : va_S A s.heap s.heap [] := va_S.rf
  have hP : va_P (dC, dI) classes [(om k0 a I0 J0), (oa (a 11) cI 201 mn), (oa (a 12) cI 8040 cx), (oa (a 13) cI 8040 cy), (oa (a 29) cI 42 P0), (oa (a 30) cI 42 Q0)] s.heap := hP
  obtain ⟨Q9, hQ9⟩ : ∃ Q9 : State → Prop, Q9 = MQ below (zQ none (fun t => ∃ (cx1 : Nat → Int32), ∃ (cy1 : Nat → Int32), (∀ j, j < pn → cx1 (40 * f + j) = P0 j ∧ cy1 (40 * f + j) = Q0 j) ∧ (∀ j, (j < 40 * f ∨ 40 * f + pn ≤ j) → cx1 j = cx j ∧ cy1 j = cy j) ∧ va_P (dC, dI) classes [(om k0 a I0 J0), (oa (a 11) cI 201 (upd mn f (nI pn))), (oa (a 12) cI 8040 cx1), (oa (a 13) cI 8040 cy1), (oa (a 29) cI 42 P0), (oa (a 30) cI 42 Q0)] t.heap ∧ va_D A [(om k0 a I0 J0), (oa (a 11) cI 201 (upd mn f (nI pn))), (oa (a 12) cI 8040 cx1), (oa (a 13) cI 8040 cy1), (oa (a 29) cI 42 P0), (oa (a 30) cI 42 Q0)]) A) ([.ref k0, .int (nI f)] : List Value).toArray s 0 0 A := ⟨_, rfl⟩
  rw [← hQ9]
  have hl := lv_entry ([.ref k0, .int (nI f)]) (n := 3) (Nat.le_of_ble_eq_true rfl)
  rw [lg_entry_eq]
  generalize (lg_sl ([.ref k0, .int (nI f)]) ++ List.replicate (3 - (lg_sl ([.ref k0, .int (nI f)])).length) Slot.unset).toArray = ls at hl ⊢
  have hl : lv_has ls 3 [(0, .ref k0), (1, .int (nI f))] := hl
  refine lv_aload_n hx hb dX11_give_0 rfl (lv_at hl 0 rfl) ?_
  refine va_get (D := (dC, dI)) (ci := 9) (v := .ref (a 11)) (C := RX11) (T := TX11) (N := 55) hx hb hts inX11 hown hK hP 0 rfl rfl 11 (by decide) (hts _ mw_1170) (fun _ h9 => h9) rfl dX11_give_1 ?_
  refine lv_iload_n hx hb dX11_give_4 rfl (lv_at hl 1 rfl) ?_
  refine lv_aload_n hx hb dX11_give_5 rfl (lv_at hl 0 rfl) ?_
  refine va_get (D := (dC, dI)) (ci := 9) (v := .int (I0 31)) (C := RX11) (T := TX11) (N := 55) hx hb hts inX11 hown hK hP 0 rfl rfl 31 (by decide) (hts _ mw_1190) (fun _ h9 => h9) rfl dX11_give_6 ?_
  refine zz_i (v := nI pn) (hpn) ?_
  refine z_iast hx hb hK hP hD hS 1 0 rfl rfl (e := f) (x := nI pn) rfl (by omega) (by omega) dX11_give_9 (fun H locs hP hD hS => ?_)
  have hP : va_P (dC, dI) classes [(om k0 a I0 J0), (oa (a 11) cI 201 (upd mn f (nI pn))), (oa (a 12) cI 8040 cx), (oa (a 13) cI 8040 cy), (oa (a 29) cI 42 P0), (oa (a 30) cI 42 Q0)] H := hP
  have hD : va_D A [(om k0 a I0 J0), (oa (a 11) cI 201 (upd mn f (nI pn))), (oa (a 12) cI 8040 cx), (oa (a 13) cI 8040 cy), (oa (a 29) cI 42 P0), (oa (a 30) cI 42 Q0)] := hD
  refine lv_iconst (v := 0) hx hb dX11_give_10 (by decide) ?_
  refine lv_istore_n (lv' := [(2, .int 0), (0, .ref k0), (1, .int (nI f))]) hx hb dX11_give_11 rfl hl (by decide) rfl (fun ls hl => ?_)
  have hl_12 : ∀ (n9 : Nat) (k : Nat) (cx1 : Nat → Int32) (cy1 : Nat → Int32) (H : Heap) (locs : List Loc) (ls : Array Slot), pn - k < n9 → (k ≤ pn) → (∀ j, j < k → cx1 (40 * f + j) = P0 j ∧ cy1 (40 * f + j) = Q0 j) → (∀ j, (j < 40 * f ∨ 40 * f + k ≤ j) → cx1 j = cx j ∧ cy1 j = cy j) → va_P (dC, dI) classes [(om k0 a I0 J0), (oa (a 11) cI 201 (upd mn f (nI pn))), (oa (a 12) cI 8040 cx1), (oa (a 13) cI 8040 cy1), (oa (a 29) cI 42 P0), (oa (a 30) cI 42 Q0)] H → va_D A [(om k0 a I0 J0), (oa (a 11) cI 201 (upd mn f (nI pn))), (oa (a 12) cI 8040 cx1), (oa (a 13) cI 8040 cy1), (oa (a 29) cI 42 P0), (oa (a 30) cI 42 Q0)] → va_S A s.heap H locs → lv_has ls 3 [(2, .int (nI k)), (0, .ref k0), (1, .int (nI f))] → W p l e ((headSpec (.code yX11_give cX11_give 3 none :: ws0) ({ frames := 0, cells := 0, slots := 0, locals := 0 } : Room)).room) s m ([.ref k0, .int (nI f)] : List Value).toArray below meth c H locs 0 0 Q9 (F0 m 12 ls []) := by
    intro n9
    induction n9 with
    | zero => intro k cx1 cy1 H locs ls hm; exact absurd hm (Nat.not_lt_zero _)
    | succ n9 ih_12 =>
      intro k cx1 cy1 H locs ls hm hk hall hrst hP hD hS hl
      refine lv_iload_n hx hb dX11_give_12 rfl (lv_at hl 0 rfl) ?_
      refine lv_aload_n hx hb dX11_give_13 rfl (lv_at hl 1 rfl) ?_
      refine va_get (D := (dC, dI)) (ci := 9) (v := .int (I0 31)) (C := RX11) (T := TX11) (N := 55) hx hb hts inX11 hown hK hP 0 rfl rfl 31 (by decide) (hts _ mw_1190) (fun _ h9 => h9) rfl dX11_give_14 ?_
      refine zz_i (v := nI pn) (hpn) ?_
      refine lv_icmp_ge (tgt := 60) hx hb dX11_give_17 (by decide) (fun c_1 => ?_) (fun c_1 => ?_)
      · have c_1 : ((pn : Nat) : Int) ≤ ((k : Nat) : Int) := zc_le (nI_toInt (by omega)) (nI_toInt (by omega)) c_1
        have hP9 := hP.sub (ws' := [(om k0 a I0 J0), (oa (a 11) cI 201 (upd mn f (nI pn))), (oa (a 12) cI 8040 cx1), (oa (a 13) cI 8040 cy1), (oa (a 29) cI 42 P0), (oa (a 30) cI 42 Q0)]) [0, 1, 2, 3, 4, 5] rfl
        have hD9 := hD.sub (ws' := [(om k0 a I0 J0), (oa (a 11) cI 201 (upd mn f (nI pn))), (oa (a 12) cI 8040 cx1), (oa (a 13) cI 8040 cy1), (oa (a 29) cI 42 P0), (oa (a 30) cI 42 Q0)]) [0, 1, 2, 3, 4, 5] (by decide) rfl
        rw [hQ9]
        exact W.vret hx hb hr (fun t ht hW => ⟨⟨rfl, cx1, cy1, (fun j hj => hall j (by omega)), (fun j hj => hrst j (by omega)), by rw [ht]; exact hP9, hD9⟩, hS.F ht⟩) hS.2.2 dX11_give_60
      · have c_1 : ((k : Nat) : Int) < ((pn : Nat) : Int) := zc_nle (nI_toInt (by omega)) (nI_toInt (by omega)) c_1
        refine lv_aload_n hx hb dX11_give_20 rfl (lv_at hl 1 rfl) ?_
        refine va_get (D := (dC, dI)) (ci := 9) (v := .ref (a 12)) (C := RX11) (T := TX11) (N := 55) hx hb hts inX11 hown hK hP 0 rfl rfl 12 (by decide) (hts _ mw_1171) (fun _ h9 => h9) rfl dX11_give_21 ?_
        refine lv_bipush (v := 40) hx hb dX11_give_24 (by decide) ?_
        refine lv_iload_n hx hb dX11_give_26 rfl (lv_at hl 2 rfl) ?_
        refine lv_imul hx hb dX11_give_27 ?_
        refine zz_i (v := nI (40 * f)) (pk_mul 40 f) ?_
        refine lv_iload_n hx hb dX11_give_28 rfl (lv_at hl 0 rfl) ?_
        refine lv_iadd hx hb dX11_give_29 ?_
        refine zz_i (v := nI (40 * f + k)) (nI_add (40 * f) k) ?_
        refine lv_aload_n hx hb dX11_give_30 rfl (lv_at hl 1 rfl) ?_
        refine va_get (D := (dC, dI)) (ci := 9) (v := .ref (a 29)) (C := RX11) (T := TX11) (N := 55) hx hb hts inX11 hown hK hP 0 rfl rfl 29 (by decide) (hts _ mw_1188) (fun _ h9 => h9) rfl dX11_give_31 ?_
        refine lv_iload_n hx hb dX11_give_34 rfl (lv_at hl 0 rfl) ?_
        refine z_iald hx hb hK hP 4 0 rfl rfl (e := k) rfl (by omega) (by omega) dX11_give_35 ?_
        refine z_iast hx hb hK hP hD hS 2 0 rfl rfl (e := 40 * f + k) (x := P0 k) rfl (by omega) (by omega) dX11_give_36 (fun H locs hP hD hS => ?_)
        have hP : va_P (dC, dI) classes [(om k0 a I0 J0), (oa (a 11) cI 201 (upd mn f (nI pn))), (oa (a 12) cI 8040 (upd cx1 (40 * f + k) (P0 k))), (oa (a 13) cI 8040 cy1), (oa (a 29) cI 42 P0), (oa (a 30) cI 42 Q0)] H := hP
        have hD : va_D A [(om k0 a I0 J0), (oa (a 11) cI 201 (upd mn f (nI pn))), (oa (a 12) cI 8040 (upd cx1 (40 * f + k) (P0 k))), (oa (a 13) cI 8040 cy1), (oa (a 29) cI 42 P0), (oa (a 30) cI 42 Q0)] := hD
        refine lv_aload_n hx hb dX11_give_37 rfl (lv_at hl 1 rfl) ?_
        refine va_get (D := (dC, dI)) (ci := 9) (v := .ref (a 13)) (C := RX11) (T := TX11) (N := 55) hx hb hts inX11 hown hK hP 0 rfl rfl 13 (by decide) (hts _ mw_1172) (fun _ h9 => h9) rfl dX11_give_38 ?_
        refine lv_bipush (v := 40) hx hb dX11_give_41 (by decide) ?_
        refine lv_iload_n hx hb dX11_give_43 rfl (lv_at hl 2 rfl) ?_
        refine lv_imul hx hb dX11_give_44 ?_
        refine zz_i (v := nI (40 * f)) (pk_mul 40 f) ?_
        refine lv_iload_n hx hb dX11_give_45 rfl (lv_at hl 0 rfl) ?_
        refine lv_iadd hx hb dX11_give_46 ?_
        refine zz_i (v := nI (40 * f + k)) (nI_add (40 * f) k) ?_
        refine lv_aload_n hx hb dX11_give_47 rfl (lv_at hl 1 rfl) ?_
        refine va_get (D := (dC, dI)) (ci := 9) (v := .ref (a 30)) (C := RX11) (T := TX11) (N := 55) hx hb hts inX11 hown hK hP 0 rfl rfl 30 (by decide) (hts _ mw_1189) (fun _ h9 => h9) rfl dX11_give_48 ?_
        refine lv_iload_n hx hb dX11_give_51 rfl (lv_at hl 0 rfl) ?_
        refine z_iald hx hb hK hP 5 0 rfl rfl (e := k) rfl (by omega) (by omega) dX11_give_52 ?_
        refine z_iast hx hb hK hP hD hS 3 0 rfl rfl (e := 40 * f + k) (x := Q0 k) rfl (by omega) (by omega) dX11_give_53 (fun H locs hP hD hS => ?_)
        have hP : va_P (dC, dI) classes [(om k0 a I0 J0), (oa (a 11) cI 201 (upd mn f (nI pn))), (oa (a 12) cI 8040 (upd cx1 (40 * f + k) (P0 k))), (oa (a 13) cI 8040 (upd cy1 (40 * f + k) (Q0 k))), (oa (a 29) cI 42 P0), (oa (a 30) cI 42 Q0)] H := hP
        have hD : va_D A [(om k0 a I0 J0), (oa (a 11) cI 201 (upd mn f (nI pn))), (oa (a 12) cI 8040 (upd cx1 (40 * f + k) (P0 k))), (oa (a 13) cI 8040 (upd cy1 (40 * f + k) (Q0 k))), (oa (a 29) cI 42 P0), (oa (a 30) cI 42 Q0)] := hD
        refine lv_iinc (v := nI (k + 1)) (lv' := [(2, .int (nI (k + 1))), (0, .ref k0), (1, .int (nI f))]) hx hb dX11_give_54 hl (k := 0) rfl (nI_add k 1) (by decide) rfl (fun ls hl => ?_)
        refine lv_goto (tgt := 12) hx hb dX11_give_57 (by decide) ?_
        exact ih_12 (k + 1) (upd cx1 (40 * f + k) (P0 k)) (upd cy1 (40 * f + k) (Q0 k)) H locs ls (by omega) (by omega) (by intro j hj; rcases Nat.lt_or_ge j k with h | h; simp only [upd, if_neg (show 40 * f + j ≠ 40 * f + k by omega)]; exact hall j h; rw [show j = k by omega]; simp only [upd, if_true]; first | exact ⟨rfl, rfl⟩ | exact ⟨trivial, trivial⟩) (by intro j hj; simp only [upd, if_neg (show j ≠ 40 * f + k by omega)]; exact hrst j (by omega)) hP hD hS (lv_sub hl [0, 1, 2] rfl)
  exact hl_12 _ 0 cx cy H locs ls (Nat.lt_succ_self _) (by omega) (by intro j hj; omega) (by intro j hj; exact ⟨rfl, rfl⟩) hP hD hS (lv_sub hl [0, 1, 2] rfl)
set_option maxHeartbeats 4000000 in
set_option maxRecDepth 100000 in
theorem k_M_lengthOf (l : Launch) (dC : Nat → ClassId) (dI : Nat → Nat → Nat) (cI cZ cF : ClassId) (sz : Nat) (k0 : Nat) (a : Nat → Nat) (I0 : Nat → Int32) (J0 : Nat → Int64) (f : Nat) (n : Nat) (mn : Nat → Int32) (cx : Nat → Int32) (cy : Nat → Int32) (S0 : Nat → Int32) (hf_f : f ≤ 200) (hm_f : mn f = nI n) (hn_f : 1 ≤ n ∧ n ≤ 40) (hp_f : pls n (cF40 cx f) (cF40 cy f)) : Met l yX11_lengthOf (.code yX11_lengthOf cX11_lengthOf 5 (some .long) :: ws0) ({ frames := 1, cells := 0, slots := 0, locals := 25 } : Room) (va_Pc [.ref k0, .int (nI f)] (zPre (dC, dI) classes (zTy cI cZ cF) [(om k0 a I0 J0), (oa (a 11) cI 201 mn), (oa (a 12) cI 8040 cx), (oa (a 13) cI 8040 cy), (oa (a 32) cI 8 S0)] sz zXN)) (zQ (some (.long (jI ((ln2 (cF40 cx f) (cF40 cy f) (n - 1) : Nat) : Int)))) (fun t => ∃ (S1 : Nat → Int32), va_P (dC, dI) classes [(om k0 a I0 J0), (oa (a 11) cI 201 mn), (oa (a 12) cI 8040 cx), (oa (a 13) cI 8040 cy), (oa (a 32) cI 8 S1)] t.heap ∧ va_D (va_A [(om k0 a I0 J0), (oa (a 11) cI 201 mn), (oa (a 12) cI 8040 cx), (oa (a 13) cI 8040 cy), (oa (a 32) cI 8 S0)] sz) [(om k0 a I0 J0), (oa (a 11) cI 201 mn), (oa (a 12) cI 8040 cx), (oa (a 13) cI 8040 cy), (oa (a 32) cI 8 S1)]) (va_A [(om k0 a I0 J0), (oa (a 11) cI 201 mn), (oa (a 12) cI 8040 cx), (oa (a 13) cI 8040 cy), (oa (a 32) cI 8 S0)] sz)) 0 0 (va_A [(om k0 a I0 J0), (oa (a 11) cI 201 mn), (oa (a 12) cI 8040 cx), (oa (a 13) cI 8040 cy), (oa (a 32) cI 8 S0)] sz) := by
  refine Met.ofW (cc := cX11_lengthOf) (maxL := 5) (ret := (some .long)) (by decide) rfl ?_
  intro p e s m args below meth c s₁ B hml hv
  obtain ⟨rfl, hsz, hP, hK, hD0, hXN⟩ := hv
  have hx := B.exec
  have hb := B.bytes
  have hr := B.returns
  have hts0 := atoms_spec (ws := .code yX11_lengthOf cX11_lengthOf 5 (some .long) :: ws0) B.pre
  have hts : ∀ w9 ∈ ws0, w9.before ([.ref k0, .int (nI f)] : List Value).toArray s = true := fun w9 h => hts0 w9 (List.mem_cons_of_mem _ h)
  have hown : s.vm.findClass "ScaleShopModel" = some m.cls := findClass_of_methodNamed B.named
  have hlocks := B.notSynchronized
  subst hsz
  have hD := hD0.self (sz := s.heap.size)
  clear hD0
  generalize hAe : va_A [(om k0 a I0 J0), (oa (a 11) cI 201 mn), (oa (a 12) cI 8040 cx), (oa (a 13) cI 8040 cy), (oa (a 32) cI 8 S0)] s.heap.size = A at hD ⊢
  have hA : ∀ q : Nat, s.heap.size ≤ q → A q := fun q h => by rw [← hAe]; exact Or.inr h
  clear hAe
  have hS : va_S A s.heap s.heap [] := va_S.rf
  have hP : va_P (dC, dI) classes [(om k0 a I0 J0), (oa (a 11) cI 201 mn), (oa (a 12) cI 8040 cx), (oa (a 13) cI 8040 cy), (oa (a 32) cI 8 S0)] s.heap := hP
  obtain ⟨Q9, hQ9⟩ : ∃ Q9 : State → Prop, Q9 = MQ below (zQ (some (.long (jI ((ln2 (cF40 cx f) (cF40 cy f) (n - 1) : Nat) : Int)))) (fun t => ∃ (S1 : Nat → Int32), va_P (dC, dI) classes [(om k0 a I0 J0), (oa (a 11) cI 201 mn), (oa (a 12) cI 8040 cx), (oa (a 13) cI 8040 cy), (oa (a 32) cI 8 S1)] t.heap ∧ va_D A [(om k0 a I0 J0), (oa (a 11) cI 201 mn), (oa (a 12) cI 8040 cx), (oa (a 13) cI 8040 cy), (oa (a 32) cI 8 S1)]) A) ([.ref k0, .int (nI f)] : List Value).toArray s 0 0 A := ⟨_, rfl⟩
  rw [← hQ9]
  have hl := lv_entry ([.ref k0, .int (nI f)]) (n := 5) (Nat.le_of_ble_eq_true rfl)
  rw [lg_entry_eq]
  generalize (lg_sl ([.ref k0, .int (nI f)]) ++ List.replicate (5 - (lg_sl ([.ref k0, .int (nI f)])).length) Slot.unset).toArray = ls at hl ⊢
  have hl : lv_has ls 5 [(0, .ref k0), (1, .int (nI f))] := hl
  refine lv_lconst (v := 0) hx hb dX11_lengthOf_0 (by decide) ?_
  refine lv_lstore_n (lv' := [(2, .long 0), (0, .ref k0), (1, .int (nI f))]) hx hb dX11_lengthOf_1 rfl hl (by decide) rfl (fun ls hl => ?_)
  refine lv_iconst (v := 0) hx hb dX11_lengthOf_2 (by decide) ?_
  refine lv_istore (lv' := [(4, .int 0), (2, .long 0), (0, .ref k0), (1, .int (nI f))]) hx hb dX11_lengthOf_3 hl (by decide) rfl (fun ls hl => ?_)
  have hl_5 : ∀ (n9 : Nat) (i : Nat) (S1 : Nat → Int32) (H : Heap) (locs : List Loc) (ls : Array Slot), n - i < n9 → (i ≤ n - 1) → va_P (dC, dI) classes [(om k0 a I0 J0), (oa (a 11) cI 201 mn), (oa (a 12) cI 8040 cx), (oa (a 13) cI 8040 cy), (oa (a 32) cI 8 S1)] H → va_D A [(om k0 a I0 J0), (oa (a 11) cI 201 mn), (oa (a 12) cI 8040 cx), (oa (a 13) cI 8040 cy), (oa (a 32) cI 8 S1)] → va_S A s.heap H locs → lv_has ls 5 [(4, .int (nI i)), (2, .long (jI ((ln2 (cF40 cx f) (cF40 cy f) i : Nat) : Int))), (0, .ref k0), (1, .int (nI f))] → W p l e ((headSpec (.code yX11_lengthOf cX11_lengthOf 5 (some .long) :: ws0) ({ frames := 1, cells := 0, slots := 0, locals := 25 } : Room)).room) s m ([.ref k0, .int (nI f)] : List Value).toArray below meth c H locs 0 0 Q9 (F0 m 5 ls []) := by
    intro n9
    induction n9 with
    | zero => intro i S1 H locs ls hm; exact absurd hm (Nat.not_lt_zero _)
    | succ n9 ih_5 =>
      intro i S1 H locs ls hm hi hP hD hS hl
      have hB := ln2B hp_f i (by omega)
      refine lv_iload hx hb dX11_lengthOf_5 (lv_at hl 0 rfl) ?_
      refine lv_aload_n hx hb dX11_lengthOf_7 rfl (lv_at hl 2 rfl) ?_
      refine va_get (D := (dC, dI)) (ci := 9) (v := .ref (a 11)) (C := RX11) (T := TX11) (N := 55) hx hb hts inX11 hown hK hP 0 rfl rfl 11 (by decide) (hts _ mw_1170) (fun _ h9 => h9) rfl dX11_lengthOf_8 ?_
      refine lv_iload_n hx hb dX11_lengthOf_11 rfl (lv_at hl 3 rfl) ?_
      refine z_iald hx hb hK hP 1 0 rfl rfl (e := f) rfl (by omega) (by omega) dX11_lengthOf_12 ?_
      refine zz_i (v := nI n) (hm_f) ?_
      refine lv_iconst (v := 1) hx hb dX11_lengthOf_13 (by decide) ?_
      refine lv_isub hx hb dX11_lengthOf_14 ?_
      refine zz_i (v := nI (n - 1)) (pk_sub (a := n) (b := 1) (by omega)) ?_
      refine lv_icmp_ge (tgt := 69) hx hb dX11_lengthOf_15 (by decide) (fun c_1 => ?_) (fun c_1 => ?_)
      · have c_1 : ((n - 1 : Nat) : Int) ≤ ((i : Nat) : Int) := zc_le (nI_toInt (by omega)) (nI_toInt (by omega)) c_1
        refine lv_lload_n hx hb dX11_lengthOf_69 rfl (lv_at hl 1 rfl) ?_
        have hP9 := hP.sub (ws' := [(om k0 a I0 J0), (oa (a 11) cI 201 mn), (oa (a 12) cI 8040 cx), (oa (a 13) cI 8040 cy), (oa (a 32) cI 8 S1)]) [0, 1, 2, 3, 4] rfl
        have hD9 := hD.sub (ws' := [(om k0 a I0 J0), (oa (a 11) cI 201 mn), (oa (a 12) cI 8040 cx), (oa (a 13) cI 8040 cy), (oa (a 32) cI 8 S1)]) [0, 1, 2, 3, 4] (by decide) rfl
        rw [hQ9]
        exact W.lret (v := jI ((ln2 (cF40 cx f) (cF40 cy f) i : Nat) : Int)) hx hb hr (fun t ht hW => ⟨⟨congrArg (fun z => Outcome.returned (some (Value.long z))) (show (jI ((ln2 (cF40 cx f) (cF40 cy f) i : Nat) : Int) : Int64) = jI ((ln2 (cF40 cx f) (cF40 cy f) (n - 1) : Nat) : Int) from by rw [show i = n - 1 by omega]), S1, by rw [ht]; exact hP9, hD9⟩, hS.F ht⟩) hS.2.2 dX11_lengthOf_70
      · have c_1 : ((i : Nat) : Int) < ((n - 1 : Nat) : Int) := zc_nle (nI_toInt (by omega)) (nI_toInt (by omega)) c_1
        have hin9 : i < n := (by omega)
        have hnx : nxt n i = i + 1 := (by unfold nxt; rw [if_pos (by omega)])
        have ha := hp_f i hin9
        have hb9 := hp_f (i + 1) (by omega)
        unfold pl at ha hb9
        have ex : (cF40 cx f (i + 1) - cF40 cx f i).toInt = (cF40 cx f (i + 1)).toInt - (cF40 cx f i).toInt := fb_subI (by omega) (by omega)
        have ey : (cF40 cy f (i + 1) - cF40 cy f i).toInt = (cF40 cy f (i + 1)).toInt - (cF40 cy f i).toInt := fb_subI (by omega) (by omega)
        refine lv_aload_n hx hb dX11_lengthOf_18 rfl (lv_at hl 2 rfl) ?_
        refine lv_iload_n hx hb dX11_lengthOf_19 rfl (lv_at hl 3 rfl) ?_
        refine lv_iload hx hb dX11_lengthOf_20 (lv_at hl 0 rfl) ?_
        refine lv_iconst (v := 0) hx hb dX11_lengthOf_22 (by decide) ?_
        have hPc := hP.sub (ws' := [(om k0 a I0 J0), (oa (a 11) cI 201 mn), (oa (a 12) cI 8040 cx), (oa (a 13) cI 8040 cy), (oa (a 32) cI 8 S1)]) [0, 1, 2, 3, 4] rfl
        have hDc := hD.sub (ws' := [(om k0 a I0 J0), (oa (a 11) cI 201 mn), (oa (a 12) cI 8040 cx), (oa (a 13) cI 8040 cy), (oa (a 32) cI 8 S1)]) [0, 1, 2, 3, 4] (by decide) rfl
        have hFc := va_free (wc := [(om k0 a I0 J0), (oa (a 11) cI 201 mn), (oa (a 12) cI 8040 cx), (oa (a 13) cI 8040 cy), (oa (a 32) cI 8 S1)]) hD hS hA [0, 1, 2, 3, 4] rfl
        refine zcall (st1 := []) (va_runV (As := [.int (nI f), .int (nI i), .int 0]) (rest := []) ⟨hx, hb, hml, hown, hts⟩ (k_M_edge l dC dI cI cZ cF H.size k0 a I0 J0 f n i 0 mn cx cy S1 (by omega) (by assumption) (by omega) (by omega) (by omega)) (cwV 3 hts (zz_gV mw_1373 mw_1375 mw_42 mw_110 mc_yX11_edge) rfl rfl rfl (by decide +kernel) ⟨Nat.le_of_ble_eq_true rfl, Nat.le_of_ble_eq_true rfl⟩) (zPV2 (q0 := 0) (ci := 9) hPc hDc hK hXN rfl rfl) rfl rfl hl.1 rfl (lv_room (Nat.le_of_ble_eq_true rfl)) dX11_lengthOf_23 ⟨Nat.le_of_ble_eq_true rfl, Nat.le_of_ble_eq_true rfl⟩) hS hFc hFc rfl (fun t H1 locs ht hB hk1 hS => ?_)
        obtain ⟨S2, t0, t1, t2, t3, tr, hP1, hD1⟩ := hB
        rw [ht] at hP1
        obtain ⟨hP, hD⟩ := va_join (wr := []) (w1 := [(om k0 a I0 J0), (oa (a 11) cI 201 mn), (oa (a 12) cI 8040 cx), (oa (a 13) cI 8040 cy), (oa (a 32) cI 8 S2)]) hP hD [0, 1, 2, 3, 4] [] rfl rfl (by decide) (by decide) hk1 hFc hP1 hD1
        clear hk1 hPc hDc hFc hP1 hD1 ht
        generalize H1 = H at hP hS ⊢
        have hP : va_P (dC, dI) classes [(om k0 a I0 J0), (oa (a 11) cI 201 mn), (oa (a 12) cI 8040 cx), (oa (a 13) cI 8040 cy), (oa (a 32) cI 8 S2)] H := hP
        have hD : va_D A [(om k0 a I0 J0), (oa (a 11) cI 201 mn), (oa (a 12) cI 8040 cx), (oa (a 13) cI 8040 cy), (oa (a 32) cI 8 S2)] := hD
        have v0 : S2 0 = cF40 cx f i := t0
        have v1 : S2 1 = cF40 cy f i := t1
        have v2 : S2 2 = cF40 cx f (i + 1) := (by rw [← hnx]; exact t2)
        have v3 : S2 3 = cF40 cy f (i + 1) := (by rw [← hnx]; exact t3)
        refine lv_lload_n hx hb dX11_lengthOf_26 rfl (lv_at hl 1 rfl) ?_
        refine lv_aload_n hx hb dX11_lengthOf_27 rfl (lv_at hl 2 rfl) ?_
        refine va_get (D := (dC, dI)) (ci := 9) (v := .ref (a 32)) (C := RX11) (T := TX11) (N := 55) hx hb hts inX11 hown hK hP 0 rfl rfl 32 (by decide) (hts _ mw_1191) (fun _ h9 => h9) rfl dX11_lengthOf_28 ?_
        refine lv_iconst (v := 2) hx hb dX11_lengthOf_31 (by decide) ?_
        refine z_iald hx hb hK hP 4 0 rfl rfl (e := 2) rfl (by omega) (by omega) dX11_lengthOf_32 ?_
        refine zz_i (v := cF40 cx f (i + 1)) (v2) ?_
        refine lv_aload_n hx hb dX11_lengthOf_33 rfl (lv_at hl 2 rfl) ?_
        refine va_get (D := (dC, dI)) (ci := 9) (v := .ref (a 32)) (C := RX11) (T := TX11) (N := 55) hx hb hts inX11 hown hK hP 0 rfl rfl 32 (by decide) (hts _ mw_1191) (fun _ h9 => h9) rfl dX11_lengthOf_34 ?_
        refine lv_iconst (v := 0) hx hb dX11_lengthOf_37 (by decide) ?_
        refine z_iald hx hb hK hP 4 0 rfl rfl (e := 0) rfl (by omega) (by omega) dX11_lengthOf_38 ?_
        refine zz_i (v := cF40 cx f i) (v0) ?_
        refine lv_isub hx hb dX11_lengthOf_39 ?_
        refine zz_i (v := iI ((cF40 cx f (i + 1)).toInt - (cF40 cx f i).toInt)) (iI_of ex) ?_
        refine va_mabs hx hb (by rw [hml]; exact hl.1.symm) hown (hts _ mw_1562) (hts _ mw_589) (hts _ mw_103) (hts _ mw_abscode) (Nat.le_of_ble_eq_true rfl) (Nat.le_of_ble_eq_true rfl) (Nat.le_of_ble_eq_true rfl) (Nat.le_of_ble_eq_true rfl) dX11_lengthOf_40 ?_
        refine zz_i (v := nI (Int.natAbs ((cF40 cx f (i + 1)).toInt - (cF40 cx f i).toInt))) (zabs (iI_toInt (by omega)) (by omega)) ?_
        refine lv_aload_n hx hb dX11_lengthOf_43 rfl (lv_at hl 2 rfl) ?_
        refine va_get (D := (dC, dI)) (ci := 9) (v := .ref (a 32)) (C := RX11) (T := TX11) (N := 55) hx hb hts inX11 hown hK hP 0 rfl rfl 32 (by decide) (hts _ mw_1191) (fun _ h9 => h9) rfl dX11_lengthOf_44 ?_
        refine lv_iconst (v := 3) hx hb dX11_lengthOf_47 (by decide) ?_
        refine z_iald hx hb hK hP 4 0 rfl rfl (e := 3) rfl (by omega) (by omega) dX11_lengthOf_48 ?_
        refine zz_i (v := cF40 cy f (i + 1)) (v3) ?_
        refine lv_aload_n hx hb dX11_lengthOf_49 rfl (lv_at hl 2 rfl) ?_
        refine va_get (D := (dC, dI)) (ci := 9) (v := .ref (a 32)) (C := RX11) (T := TX11) (N := 55) hx hb hts inX11 hown hK hP 0 rfl rfl 32 (by decide) (hts _ mw_1191) (fun _ h9 => h9) rfl dX11_lengthOf_50 ?_
        refine lv_iconst (v := 1) hx hb dX11_lengthOf_53 (by decide) ?_
        refine z_iald hx hb hK hP 4 0 rfl rfl (e := 1) rfl (by omega) (by omega) dX11_lengthOf_54 ?_
        refine zz_i (v := cF40 cy f i) (v1) ?_
        refine lv_isub hx hb dX11_lengthOf_55 ?_
        refine zz_i (v := iI ((cF40 cy f (i + 1)).toInt - (cF40 cy f i).toInt)) (iI_of ey) ?_
        refine va_mabs hx hb (by rw [hml]; exact hl.1.symm) hown (hts _ mw_1562) (hts _ mw_589) (hts _ mw_103) (hts _ mw_abscode) (Nat.le_of_ble_eq_true rfl) (Nat.le_of_ble_eq_true rfl) (Nat.le_of_ble_eq_true rfl) (Nat.le_of_ble_eq_true rfl) dX11_lengthOf_56 ?_
        refine zz_i (v := nI (Int.natAbs ((cF40 cy f (i + 1)).toInt - (cF40 cy f i).toInt))) (zabs (iI_toInt (by omega)) (by omega)) ?_
        refine lv_iadd hx hb dX11_lengthOf_59 ?_
        refine zz_i (v := nI ((Int.natAbs ((cF40 cx f (i + 1)).toInt - (cF40 cx f i).toInt)) + (Int.natAbs ((cF40 cy f (i + 1)).toInt - (cF40 cy f i).toInt)))) (nI_add (Int.natAbs ((cF40 cx f (i + 1)).toInt - (cF40 cx f i).toInt)) (Int.natAbs ((cF40 cy f (i + 1)).toInt - (cF40 cy f i).toInt))) ?_
        refine lv_i2l (v := (nI ((Int.natAbs ((cF40 cx f (i + 1)).toInt - (cF40 cx f i).toInt)) + (Int.natAbs ((cF40 cy f (i + 1)).toInt - (cF40 cy f i).toInt)))).toInt64) hx hb dX11_lengthOf_60 (rfl) ?_
        refine zz_l (v := jI (((((cF40 cx f (i + 1)).toInt - (cF40 cx f i).toInt).natAbs + ((cF40 cy f (i + 1)).toInt - (cF40 cy f i).toInt).natAbs) : Nat) : Int)) (nI_64 (by omega)) ?_
        refine lv_ladd hx hb dX11_lengthOf_61 ?_
        refine zz_l (v := jI (((ln2 (cF40 cx f) (cF40 cy f) i : Nat) : Int) + (((((cF40 cx f (i + 1)).toInt - (cF40 cx f i).toInt).natAbs + ((cF40 cy f (i + 1)).toInt - (cF40 cy f i).toInt).natAbs) : Nat) : Int))) (jI_add (by omega) (by omega)) ?_
        refine lv_lstore_n (lv' := [(2, .long (jI (((ln2 (cF40 cx f) (cF40 cy f) i : Nat) : Int) + (((((cF40 cx f (i + 1)).toInt - (cF40 cx f i).toInt).natAbs + ((cF40 cy f (i + 1)).toInt - (cF40 cy f i).toInt).natAbs) : Nat) : Int)))), (4, .int (nI i)), (0, .ref k0), (1, .int (nI f))]) hx hb dX11_lengthOf_62 rfl hl (by decide) rfl (fun ls hl => ?_)
        refine lv_iinc (v := nI (i + 1)) (lv' := [(4, .int (nI (i + 1))), (2, .long (jI (((ln2 (cF40 cx f) (cF40 cy f) i : Nat) : Int) + (((((cF40 cx f (i + 1)).toInt - (cF40 cx f i).toInt).natAbs + ((cF40 cy f (i + 1)).toInt - (cF40 cy f i).toInt).natAbs) : Nat) : Int)))), (0, .ref k0), (1, .int (nI f))]) hx hb dX11_lengthOf_63 hl (k := 1) rfl (nI_add i 1) (by decide) rfl (fun ls hl => ?_)
        refine lv_goto (tgt := 5) hx hb dX11_lengthOf_66 (by decide) ?_
        have hl9 := lv_sub hl [0, 1, 2, 3] rfl
        have e9_2 : jI ((ln2 (cF40 cx f) (cF40 cy f) (i + 1) : Nat) : Int) = (jI (((ln2 (cF40 cx f) (cF40 cy f) i : Nat) : Int) + (((((cF40 cx f (i + 1)).toInt - (cF40 cx f i).toInt).natAbs + ((cF40 cy f (i + 1)).toInt - (cF40 cy f i).toInt).natAbs) : Nat) : Int)) : Int64) := by rfl
        have hl9 : lv_has ls 5 [(4, .int (nI (i + 1))), (2, .long (jI ((ln2 (cF40 cx f) (cF40 cy f) (i + 1) : Nat) : Int))), (0, .ref k0), (1, .int (nI f))] := by rw [e9_2]; exact hl9
        exact ih_5 (i + 1) S2 H locs ls (by omega) (by omega) hP hD hS hl9
  have e9_2 : jI ((ln2 (cF40 cx f) (cF40 cy f) 0 : Nat) : Int) = (0 : Int64) := by rfl
  have hl9 : lv_has ls 5 [(4, .int (nI 0)), (2, .long (jI ((ln2 (cF40 cx f) (cF40 cy f) 0 : Nat) : Int))), (0, .ref k0), (1, .int (nI f))] := by rw [e9_2]; exact lv_sub hl [0, 1, 2, 3] rfl
  exact hl_5 _ 0 S0 s.heap [] ls (Nat.lt_succ_self _) (by omega) hP hD hS hl9
