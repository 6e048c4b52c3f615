section
set_option maxHeartbeats 4000000 in
set_option maxRecDepth 100000 in
theorem k_M_placeOf_u (l : Launch) (dC : Nat → ClassId) (dI : Nat → Nat → Nat) (cI cZ cF : ClassId) (sz : Nat) (k0 : Nat) (a : Nat → Nat) (I0 : Nat → Int32) (J0 : Nat → Int64) (px : Int32) (py : Int32) (pc9 : Nat) (jx : Nat → Int32) (jy : Nat → Int32) (gr : Nat → Int32) (hp400 : pc9 ≤ 401) : Met l yX11_placeOf (.code yX11_placeOf cX11_placeOf 4 (some .int) :: ws0) ({ frames := 0, cells := 0, slots := 0, locals := 0 } : Room) (va_Pc [.ref k0, .int px, .int py] (zPre (dC, dI) classes (zTy cI cZ cF) [(om k0 a (upd I0 54 (nI pc9)) J0), (oa (a 51) cI 402 jx), (oa (a 52) cI 402 jy), (oa (a 53) cI 402 gr)] sz zXN)) (zQe (fun v9 t => ∃ (pc1 : Nat), ∃ (b9 : Nat), ∃ (jx1 : Nat → Int32), ∃ (jy1 : Nat → Int32), ∃ (gr1 : Nat → Int32), v9 = (some (.int (nI b9))) ∧ (b9 < pc1 ∧ pc9 ≤ pc1 ∧ pc1 ≤ pc9 + 1) ∧ ((jx1 b9, jy1 b9) = (px, py)) ∧ (∀ j, j < pc9 → jx1 j = jx j ∧ jy1 j = jy j ∧ gr1 j = gr j) ∧ (pc1 = pc9 ∨ (pc1 = pc9 + 1 ∧ b9 = pc9 ∧ gr1 pc9 = nI pc9 ∧ ∀ j, j < pc9 → ¬ ((jx j).toInt = px.toInt ∧ (jy j).toInt = py.toInt))) ∧ va_P (dC, dI) classes [(om k0 a (upd I0 54 (nI pc1)) J0), (oa (a 51) cI 402 jx1), (oa (a 52) cI 402 jy1), (oa (a 53) cI 402 gr1)] t.heap ∧ va_D (va_A [(om k0 a (upd I0 54 (nI pc9)) J0), (oa (a 51) cI 402 jx), (oa (a 52) cI 402 jy), (oa (a 53) cI 402 gr)] sz) [(om k0 a (upd I0 54 (nI pc1)) J0), (oa (a 51) cI 402 jx1), (oa (a 52) cI 402 jy1), (oa (a 53) cI 402 gr1)]) (va_A [(om k0 a (upd I0 54 (nI pc9)) J0), (oa (a 51) cI 402 jx), (oa (a 52) cI 402 jy), (oa (a 53) cI 402 gr)] sz)) 0 0 (va_A [(om k0 a (upd I0 54 (nI pc9)) J0), (oa (a 51) cI 402 jx), (oa (a 52) cI 402 jy), (oa (a 53) cI 402 gr)] sz) := by
  refine Met.ofW (cc := cX11_placeOf) (maxL := 4) (ret := (some .int)) rfl rfl ?_
  intro p e s m args below meth c s₁ B hml hv
  obtain ⟨rfl, hsz, hP, hK, hD0, hXN⟩ := hv
  have hx := B.exec
  have hb := B.bytes
  have hr := B.returns
  have hts0 := atoms_spec (ws := .code yX11_placeOf cX11_placeOf 4 (some .int) :: ws0) B.pre
  have hts : ∀ w9 ∈ ws0, w9.before ([.ref k0, .int px, .int py] : List Value).toArray s = true := fun w9 h => hts0 w9 (List.mem_cons_of_mem _ h)
  have hown : s.vm.findClass "ScaleShopModel" = some m.cls := findClass_of_methodNamed B.named
  have hlocks := B.notSynchronized
  subst hsz
  have hD := hD0.self (sz := s.heap.size)
  clear hD0
  generalize hAe : va_A [(om k0 a (upd I0 54 (nI pc9)) J0), (oa (a 51) cI 402 jx), (oa (a 52) cI 402 jy), (oa (a 53) cI 402 gr)] s.heap.size = A at hD ⊢
  have hA : ∀ q : Nat, s.heap.size ≤ q → A q := fun q h => by rw [← hAe]; exact Or.inr h
  clear hAe
  have hS : va_S A s.heap s.heap [] := va_S.rf
  have hP : va_P (dC, dI) classes [(om k0 a (upd I0 54 (nI pc9)) J0), (oa (a 51) cI 402 jx), (oa (a 52) cI 402 jy), (oa (a 53) cI 402 gr)] s.heap := hP
  obtain ⟨Q9, hQ9⟩ : ∃ Q9 : State → Prop, Q9 = MQ below (zQe (fun v9 t => ∃ (pc1 : Nat), ∃ (b9 : Nat), ∃ (jx1 : Nat → Int32), ∃ (jy1 : Nat → Int32), ∃ (gr1 : Nat → Int32), v9 = (some (.int (nI b9))) ∧ (b9 < pc1 ∧ pc9 ≤ pc1 ∧ pc1 ≤ pc9 + 1) ∧ ((jx1 b9, jy1 b9) = (px, py)) ∧ (∀ j, j < pc9 → jx1 j = jx j ∧ jy1 j = jy j ∧ gr1 j = gr j) ∧ (pc1 = pc9 ∨ (pc1 = pc9 + 1 ∧ b9 = pc9 ∧ gr1 pc9 = nI pc9 ∧ ∀ j, j < pc9 → ¬ ((jx j).toInt = px.toInt ∧ (jy j).toInt = py.toInt))) ∧ va_P (dC, dI) classes [(om k0 a (upd I0 54 (nI pc1)) J0), (oa (a 51) cI 402 jx1), (oa (a 52) cI 402 jy1), (oa (a 53) cI 402 gr1)] t.heap ∧ va_D A [(om k0 a (upd I0 54 (nI pc1)) J0), (oa (a 51) cI 402 jx1), (oa (a 52) cI 402 jy1), (oa (a 53) cI 402 gr1)]) A) ([.ref k0, .int px, .int py] : List Value).toArray s 0 0 A := ⟨_, rfl⟩
  rw [← hQ9]
  have hl := lv_entry ([.ref k0, .int px, .int py]) (n := 4) (Nat.le_of_ble_eq_true rfl)
  rw [lg_entry_eq]
  generalize (lg_sl ([.ref k0, .int px, .int py]) ++ List.replicate (4 - (lg_sl ([.ref k0, .int px, .int py])).length) Slot.unset).toArray = ls at hl ⊢
  have hl : lv_has ls 4 [(0, .ref k0), (1, .int px), (2, .int py)] := hl
  refine lv_iconst (v := 0) hx hb dX11_placeOf_0 rfl ?_
  refine lv_istore_n (lv' := [(3, .int 0), (0, .ref k0), (1, .int px), (2, .int py)]) hx hb dX11_placeOf_1 rfl hl (Nat.le_of_ble_eq_true rfl) rfl (fun ls hl => ?_)
  have hl_2 : ∀ (n9 : Nat) (k : Nat) (H : Heap) (locs : List Loc) (ls : Array Slot), pc9 - k < n9 → (k ≤ pc9) → (∀ j, j < k → ¬ ((jx j).toInt = px.toInt ∧ (jy j).toInt = py.toInt)) → va_P (dC, dI) classes [(om k0 a (upd I0 54 (nI pc9)) J0), (oa (a 51) cI 402 jx), (oa (a 52) cI 402 jy), (oa (a 53) cI 402 gr)] H → va_D A [(om k0 a (upd I0 54 (nI pc9)) J0), (oa (a 51) cI 402 jx), (oa (a 52) cI 402 jy), (oa (a 53) cI 402 gr)] → va_S A s.heap H locs → lv_has ls 4 [(3, .int (nI k)), (0, .ref k0), (1, .int px), (2, .int py)] → W p l e ((headSpec (.code yX11_placeOf cX11_placeOf 4 (some .int) :: ws0) ({ frames := 0, cells := 0, slots := 0, locals := 0 } : Room)).room) s m ([.ref k0, .int px, .int py] : List Value).toArray below meth c H locs 0 0 Q9 (F0 m 2 ls []) := by
    intro n9
    induction n9 with
    | zero => intro k H locs ls hm; exact absurd hm (Nat.not_lt_zero _)
    | succ n9 ih_2 =>
      intro k H locs ls hm hk hno hP hD hS hl
      refine lv_iload_n hx hb dX11_placeOf_2 rfl (lv_at hl 0 rfl) ?_
      refine lv_aload_n hx hb dX11_placeOf_3 rfl (lv_at hl 1 rfl) ?_
      refine va_get (D := (dC, dI)) (ci := 9) (v := .int (nI pc9)) (C := RX11) (T := TX11) (N := 55) hx hb hts inX11 hown hK hP 0 rfl rfl 54 (Nat.le_of_ble_eq_true rfl) (hts _ mw_1213) (fun _ h9 => h9) rfl dX11_placeOf_4 ?_
      have b9_2 : zlt (k) := show k < 2147483648 by omega
      have b9_3 : zlt (pc9) := show pc9 < 2147483648 by omega
      refine lv_icmp_ge (tgt := 38) hx hb dX11_placeOf_7 rfl (fun c_1 => ?_) (fun c_1 => ?_)
      · have c_1 : ((pc9 : Nat) : Int) ≤ ((k : Nat) : Int) := zc_le (nI_toInt b9_3) (nI_toInt b9_2) c_1
        refine lv_aload_n hx hb dX11_placeOf_38 rfl (lv_at hl 1 rfl) ?_
        refine va_get (D := (dC, dI)) (ci := 9) (v := .ref (a 51)) (C := RX11) (T := TX11) (N := 55) hx hb hts inX11 hown hK hP 0 rfl rfl 51 (Nat.le_of_ble_eq_true rfl) (hts _ mw_1210) (fun _ h9 => h9) rfl dX11_placeOf_39 ?_
        refine lv_aload_n hx hb dX11_placeOf_42 rfl (lv_at hl 1 rfl) ?_
        refine va_get (D := (dC, dI)) (ci := 9) (v := .int (nI pc9)) (C := RX11) (T := TX11) (N := 55) hx hb hts inX11 hown hK hP 0 rfl rfl 54 (Nat.le_of_ble_eq_true rfl) (hts _ mw_1213) (fun _ h9 => h9) rfl dX11_placeOf_43 ?_
        refine lv_iload_n hx hb dX11_placeOf_46 rfl (lv_at hl 2 rfl) ?_
        have b9_4 : pc9 < 402 := by omega
        refine z_iast hx hb hK hP hD hS 1 0 rfl rfl (e := pc9) (x := px) rfl b9_4 (Nat.le_of_ble_eq_true rfl) dX11_placeOf_47 (fun H locs hP hD hS => ?_)
        obtain ⟨hP, hD⟩ := zre (W2 := [_, (oa (a 51) cI 402 (upd jx pc9 px)), _, _]) hP hD rfl
        refine lv_aload_n hx hb dX11_placeOf_48 rfl (lv_at hl 1 rfl) ?_
        refine va_get (D := (dC, dI)) (ci := 9) (v := .ref (a 52)) (C := RX11) (T := TX11) (N := 55) hx hb hts inX11 hown hK hP 0 rfl rfl 52 (Nat.le_of_ble_eq_true rfl) (hts _ mw_1211) (fun _ h9 => h9) rfl dX11_placeOf_49 ?_
        refine lv_aload_n hx hb dX11_placeOf_52 rfl (lv_at hl 1 rfl) ?_
        refine va_get (D := (dC, dI)) (ci := 9) (v := .int (nI pc9)) (C := RX11) (T := TX11) (N := 55) hx hb hts inX11 hown hK hP 0 rfl rfl 54 (Nat.le_of_ble_eq_true rfl) (hts _ mw_1213) (fun _ h9 => h9) rfl dX11_placeOf_53 ?_
        refine lv_iload_n hx hb dX11_placeOf_56 rfl (lv_at hl 3 rfl) ?_
        refine z_iast hx hb hK hP hD hS 2 0 rfl rfl (e := pc9) (x := py) rfl b9_4 (Nat.le_of_ble_eq_true rfl) dX11_placeOf_57 (fun H locs hP hD hS => ?_)
        obtain ⟨hP, hD⟩ := zre (W2 := [_, _, (oa (a 52) cI 402 (upd jy pc9 py)), _]) hP hD rfl
        refine lv_aload_n hx hb dX11_placeOf_58 rfl (lv_at hl 1 rfl) ?_
        refine va_get (D := (dC, dI)) (ci := 9) (v := .ref (a 53)) (C := RX11) (T := TX11) (N := 55) hx hb hts inX11 hown hK hP 0 rfl rfl 53 (Nat.le_of_ble_eq_true rfl) (hts _ mw_1212) (fun _ h9 => h9) rfl dX11_placeOf_59 ?_
        refine lv_aload_n hx hb dX11_placeOf_62 rfl (lv_at hl 1 rfl) ?_
        refine va_get (D := (dC, dI)) (ci := 9) (v := .int (nI pc9)) (C := RX11) (T := TX11) (N := 55) hx hb hts inX11 hown hK hP 0 rfl rfl 54 (Nat.le_of_ble_eq_true rfl) (hts _ mw_1213) (fun _ h9 => h9) rfl dX11_placeOf_63 ?_
        refine lv_aload_n hx hb dX11_placeOf_66 rfl (lv_at hl 1 rfl) ?_
        refine va_get (D := (dC, dI)) (ci := 9) (v := .int (nI pc9)) (C := RX11) (T := TX11) (N := 55) hx hb hts inX11 hown hK hP 0 rfl rfl 54 (Nat.le_of_ble_eq_true rfl) (hts _ mw_1213) (fun _ h9 => h9) rfl dX11_placeOf_67 ?_
        refine z_iast hx hb hK hP hD hS 3 0 rfl rfl (e := pc9) (x := nI pc9) rfl b9_4 (Nat.le_of_ble_eq_true rfl) dX11_placeOf_70 (fun H locs hP hD hS => ?_)
        obtain ⟨hP, hD⟩ := zre (W2 := [_, _, _, (oa (a 53) cI 402 (upd gr pc9 (nI pc9)))]) hP hD rfl
        refine lv_aload_n hx hb dX11_placeOf_71 rfl (lv_at hl 1 rfl) ?_
        refine lv_dup hx hb dX11_placeOf_72 rfl ?_
        refine va_get (D := (dC, dI)) (ci := 9) (v := .int (nI pc9)) (C := RX11) (T := TX11) (N := 55) hx hb hts inX11 hown hK hP 0 rfl rfl 54 (Nat.le_of_ble_eq_true rfl) (hts _ mw_1213) (fun _ h9 => h9) rfl dX11_placeOf_73 ?_
        refine lv_iconst (v := 1) hx hb dX11_placeOf_76 rfl ?_
        refine lv_iadd hx hb dX11_placeOf_77 ?_
        refine zz_i (v := nI (pc9 + 1)) (nI_add pc9 1) ?_
        refine va_put (D := (dC, dI)) (ci := 9) (v := .int (nI (pc9 + 1))) (ty := .int) (C := RX11) (T := TX11) (N := 55) hx hb hts inX11 tyX11 tyX11_ok nmX11 hown hK hP hD hS 0 rfl rfl 54 (by decide) (hts _ mw_1213) (fun _ h9 => h9) rfl (by decide +kernel) rfl rfl (Nat.le_of_ble_eq_true rfl) dX11_placeOf_78 (fun H locs hP hD hS => ?_)
        obtain ⟨hP, hD⟩ := zre (W2 := [(om k0 a (upd I0 54 (nI (pc9 + 1))) J0), _, _, _]) hP hD rfl
        refine lv_aload_n hx hb dX11_placeOf_81 rfl (lv_at hl 1 rfl) ?_
        refine va_get (D := (dC, dI)) (ci := 9) (v := .int (nI (pc9 + 1))) (C := RX11) (T := TX11) (N := 55) hx hb hts inX11 hown hK hP 0 rfl rfl 54 (Nat.le_of_ble_eq_true rfl) (hts _ mw_1213) (fun _ h9 => h9) rfl dX11_placeOf_82 ?_
        refine lv_iconst (v := 1) hx hb dX11_placeOf_85 rfl ?_
        refine lv_isub hx hb dX11_placeOf_86 ?_
        refine zz_i (v := nI ((pc9 + 1) - 1)) (pk_sub (a := pc9 + 1) (b := 1) (by omega)) ?_
        refine zz_i (v := nI pc9) (zn_eq (by omega)) ?_
        have hkp : k = pc9 := (by omega)
        rw [hkp] at hno
        obtain ⟨hP9, hD9⟩ := zu_sub (wc := [_, _, _, _]) hP hD [true, true, true, true] rfl rfl
        rw [hQ9]
        exact W.iret (v := nI pc9) hx hb hr (fun t ht hW => ⟨⟨_, rfl, (pc9 + 1), pc9, (upd jx pc9 px), (upd jy pc9 py), (upd gr pc9 (nI pc9)), rfl, (⟨by omega, by omega, by omega⟩), (by rw [up_at, up_at]), (fun j hj => ⟨if_neg (by omega), if_neg (by omega), if_neg (by omega)⟩), (Or.inr ⟨rfl, rfl, up_at _ _ _, fun j hj => hno j (by omega)⟩), by rw [ht]; exact hP9, hD9⟩, hS.F ht⟩) hS.2.2 dX11_placeOf_87
      · have c_1 : ((k : Nat) : Int) < ((pc9 : Nat) : Int) := zc_nle (nI_toInt b9_3) (nI_toInt b9_2) c_1
        refine lv_aload_n hx hb dX11_placeOf_10 rfl (lv_at hl 1 rfl) ?_
        refine va_get (D := (dC, dI)) (ci := 9) (v := .ref (a 51)) (C := RX11) (T := TX11) (N := 55) hx hb hts inX11 hown hK hP 0 rfl rfl 51 (Nat.le_of_ble_eq_true rfl) (hts _ mw_1210) (fun _ h9 => h9) rfl dX11_placeOf_11 ?_
        refine lv_iload_n hx hb dX11_placeOf_14 rfl (lv_at hl 0 rfl) ?_
        have b9_5 : k < 402 := by omega
        refine z_iald hx hb hK hP 1 0 rfl rfl (e := k) rfl b9_5 (Nat.le_of_ble_eq_true rfl) dX11_placeOf_15 ?_
        refine lv_iload_n hx hb dX11_placeOf_16 rfl (lv_at hl 2 rfl) ?_
        refine lv_icmp_ne (tgt := 32) hx hb dX11_placeOf_17 rfl (fun c_6 => ?_) (fun c_6 => ?_)
        · have c_6 : ¬ (jx k).toInt = px.toInt := zc_ne rfl rfl c_6
          refine lv_iinc (v := nI (k + 1)) (lv' := [(3, .int (nI (k + 1))), (0, .ref k0), (1, .int px), (2, .int py)]) hx hb dX11_placeOf_32 hl (k := 0) rfl (nI_add k 1) (Nat.le_of_ble_eq_true rfl) rfl (fun ls hl => ?_)
          refine lv_goto (tgt := 2) hx hb dX11_placeOf_35 rfl ?_
          exact ih_2 (k + 1) H locs ls (by first | with_reducible assumption | omega) (by first | with_reducible assumption | omega) (by intro j hj; rcases Nat.lt_or_ge j k with h | h; exact hno j h; rw [show j = k by omega]; omega) hP hD hS (lv_sub hl [0, 1, 2, 3] rfl)
        · have c_6 : (jx k).toInt = px.toInt := zc_eq rfl rfl c_6
          refine lv_aload_n hx hb dX11_placeOf_20 rfl (lv_at hl 1 rfl) ?_
          refine va_get (D := (dC, dI)) (ci := 9) (v := .ref (a 52)) (C := RX11) (T := TX11) (N := 55) hx hb hts inX11 hown hK hP 0 rfl rfl 52 (Nat.le_of_ble_eq_true rfl) (hts _ mw_1211) (fun _ h9 => h9) rfl dX11_placeOf_21 ?_
          refine lv_iload_n hx hb dX11_placeOf_24 rfl (lv_at hl 0 rfl) ?_
          have b9_7 : k < 402 := by omega
          refine z_iald hx hb hK hP 2 0 rfl rfl (e := k) rfl b9_7 (Nat.le_of_ble_eq_true rfl) dX11_placeOf_25 ?_
          refine lv_iload_n hx hb dX11_placeOf_26 rfl (lv_at hl 3 rfl) ?_
          refine lv_icmp_ne (tgt := 32) hx hb dX11_placeOf_27 rfl (fun c_8 => ?_) (fun c_8 => ?_)
          · have c_8 : ¬ (jy k).toInt = py.toInt := zc_ne rfl rfl c_8
            refine lv_iinc (v := nI (k + 1)) (lv' := [(3, .int (nI (k + 1))), (0, .ref k0), (1, .int px), (2, .int py)]) hx hb dX11_placeOf_32 hl (k := 0) rfl (nI_add k 1) (Nat.le_of_ble_eq_true rfl) rfl (fun ls hl => ?_)
            refine lv_goto (tgt := 2) hx hb dX11_placeOf_35 rfl ?_
            exact ih_2 (k + 1) H locs ls (by first | with_reducible assumption | omega) (by first | with_reducible assumption | omega) (by intro j hj; rcases Nat.lt_or_ge j k with h | h; exact hno j h; rw [show j = k by omega]; omega) hP hD hS (lv_sub hl [0, 1, 2, 3] rfl)
          · have c_8 : (jy k).toInt = py.toInt := zc_eq rfl rfl c_8
            refine lv_iload_n hx hb dX11_placeOf_30 rfl (lv_at hl 0 rfl) ?_
            obtain ⟨hP9, hD9⟩ := zu_sub (wc := [_, _, _, _]) hP hD [true, true, true, true] rfl rfl
            rw [hQ9]
            exact W.iret (v := nI k) hx hb hr (fun t ht hW => ⟨⟨_, rfl, pc9, k, jx, jy, gr, rfl, (⟨by omega, by omega, by omega⟩), (ptE (by omega) (by omega)), (fun j hj => ⟨rfl, rfl, rfl⟩), (Or.inl rfl), by rw [ht]; exact hP9, hD9⟩, hS.F ht⟩) hS.2.2 dX11_placeOf_31
  exact hl_2 _ 0 s.heap [] ls (Nat.lt_succ_self _) (by first | with_reducible assumption | omega) (by intro j hj; omega) hP hD hS (lv_sub hl [0, 1, 2, 3] rfl)
set_option maxHeartbeats 4000000 in
set_option maxRecDepth 100000 in
theorem k_M_choose_r (l : Launch) (dC : Nat → ClassId) (dI : Nat → Nat → Nat) (cI cZ cF : ClassId) (sz : Nat) (k0 : Nat) (a : Nat → Nat) (I0 : Nat → Int32) (J0 : Nat → Int64) (ft : Nat) (st : Nat → Int32) (tn : Nat → Int32) (kd : Nat → Int32) (rk : Nat → Int32) (mn : Nat → Int32) (cx : Nat → Int32) (cy : Nat → Int32) (S0 : Nat → Int32) (mk : Nat → Int32) (mt : Nat → Int32) (jx : Nat → Int32) (jy : Nat → Int32) (gr : Nat → Int32) (hft : I0 0 = nI ft) (h200 : ft ≤ 200) (hwf : ∀ q, lvF ft st tn q → wfM mn cx cy q) (hrk : ∀ q, lvF ft st tn q → 0 ≤ (rk q).toInt ∧ (rk q).toInt ≤ 9) (hz : cntP (chM (rdF ft st tn kd) (chW rk mn cx cy) (chB cx cy) (chL mn cx cy)) ft = 0) : zM l yX11_choose cX11_choose 7 (some .int) ({ frames := 3, cells := 0, slots := 0, locals := 70 } : Room) [.ref k0] (dC, dI) (zTy cI cZ cF) [(om k0 a I0 J0), (oa (a 5) cI 201 st), (oa (a 6) cZ 201 tn), (oa (a 1) cI 201 kd), (oa (a 2) cI 201 rk), (oa (a 11) cI 201 mn), (oa (a 12) cI 8040 cx), (oa (a 13) cI 8040 cy), (oa (a 32) cI 8 S0), (oa (a 50) cZ 201 mk), (oa (a 37) cZ 201 mt), (oa (a 51) cI 402 jx), (oa (a 52) cI 402 jy), (oa (a 53) cI 402 gr)] sz (some (.int (-1))) (fun A t => ∃ (pc9 : Nat), ∃ (S1 : Nat → Int32), ∃ (mk1 : Nat → Int32), ∃ (mt1 : Nat → Int32), ∃ (jx1 : Nat → Int32), ∃ (jy1 : Nat → Int32), ∃ (gr1 : Nat → Int32), zPD (dC, dI) classes A [(om k0 a (upd (upd (upd I0 14 8) 15 (I0 15)) 54 (nI pc9)) J0), (oa (a 5) cI 201 st), (oa (a 6) cZ 201 tn), (oa (a 1) cI 201 kd), (oa (a 2) cI 201 rk), (oa (a 11) cI 201 mn), (oa (a 12) cI 8040 cx), (oa (a 13) cI 8040 cy), (oa (a 32) cI 8 S1), (oa (a 50) cZ 201 mk1), (oa (a 37) cZ 201 mt1), (oa (a 51) cI 402 jx1), (oa (a 52) cI 402 jy1), (oa (a 53) cI 402 gr1)] t.heap) 0 0 := by
  refine zIn (own := "ScaleShopModel") (loc := [(0, .ref k0)]) rfl rfl rfl rfl (fun p e s m below meth c hx hb hr hts hown hlocks hml hnm9 A hA hS hP hD hK hXN Q9 hQ9 ls hl => ?_)
  refine lv_aload_n hx hb dX11_choose_0 rfl (lv_at hl 0 rfl) ?_
  refine lv_iconst (v := 0) hx hb dX11_choose_1 rfl ?_
  refine va_put (D := (dC, dI)) (ci := 9) (v := .int 0) (ty := .int) (C := RX11) (T := TX11) (N := 55) hx hb hts inX11 tyX11 tyX11_ok nmX11 hown hK hP hD hS 0 rfl rfl 54 (by decide) (hts _ mw_1213) (fun _ h9 => h9) rfl (by decide +kernel) rfl rfl (Nat.le_of_ble_eq_true rfl) dX11_choose_2 (fun H locs hP hD hS => ?_)
  obtain ⟨hP, hD⟩ := zre (W2 := [(om k0 a (upd I0 54 0) J0), _, _, _, _, _, _, _, _, _, _, _, _, _]) hP hD rfl
  refine lv_iconst (v := 0) hx hb dX11_choose_5 rfl ?_
  refine lv_istore_n (lv' := [(1, .int 0), (0, .ref k0)]) hx hb dX11_choose_6 rfl hl (Nat.le_of_ble_eq_true rfl) rfl (fun ls hl => ?_)
  have hl_7 : ∀ (n9 : Nat) (q : Nat) (mk0 : Nat → Int32) (mt0 : Nat → Int32) (H : Heap) (locs : List Loc) (ls : Array Slot), ft - q < n9 → (q ≤ ft) → (∀ j, j < q → mk0 j = pI (False ∧ (chM (rdF ft st tn kd) (chW rk mn cx cy) (chB cx cy) (chL mn cx cy)) j)) → (∀ j, j < q → mt0 j = pI (¬ (rdF ft st tn kd) j ∨ False)) → va_P (dC, dI) classes [(om k0 a (upd I0 54 0) J0), (oa (a 5) cI 201 st), (oa (a 6) cZ 201 tn), (oa (a 1) cI 201 kd), (oa (a 2) cI 201 rk), (oa (a 11) cI 201 mn), (oa (a 12) cI 8040 cx), (oa (a 13) cI 8040 cy), (oa (a 32) cI 8 S0), (oa (a 50) cZ 201 mk0), (oa (a 37) cZ 201 mt0), (oa (a 51) cI 402 jx), (oa (a 52) cI 402 jy), (oa (a 53) cI 402 gr)] H → va_D A [(om k0 a (upd I0 54 0) J0), (oa (a 5) cI 201 st), (oa (a 6) cZ 201 tn), (oa (a 1) cI 201 kd), (oa (a 2) cI 201 rk), (oa (a 11) cI 201 mn), (oa (a 12) cI 8040 cx), (oa (a 13) cI 8040 cy), (oa (a 32) cI 8 S0), (oa (a 50) cZ 201 mk0), (oa (a 37) cZ 201 mt0), (oa (a 51) cI 402 jx), (oa (a 52) cI 402 jy), (oa (a 53) cI 402 gr)] → va_S A s.heap H locs → lv_has ls 7 [(1, .int (nI q)), (0, .ref k0)] → W p l e ({ frames := 3, cells := 0, slots := 0, locals := 70 } : Room) s m ([.ref k0] : List Value).toArray below meth c H locs 0 0 Q9 (F0 m 7 ls []) := by
    intro n9
    induction n9 with
    | zero => intro q mk0 mt0 H locs ls hm; exact absurd hm (Nat.not_lt_zero _)
    | succ n9 ih_7 =>
      intro q mk0 mt0 H locs ls hm hq hm0 ht0 hP hD hS hl
      refine lv_iload_n hx hb dX11_choose_7 rfl (lv_at hl 0 rfl) ?_
      refine lv_aload_n hx hb dX11_choose_8 rfl (lv_at hl 1 rfl) ?_
      refine va_get (D := (dC, dI)) (ci := 9) (v := .int (I0 0)) (C := RX11) (T := TX11) (N := 55) hx hb hts inX11 hown hK hP 0 rfl rfl 0 (Nat.le_of_ble_eq_true rfl) (hts _ mw_1159) (fun _ h9 => h9) rfl dX11_choose_9 ?_
      refine zz_i (v := nI ft) (hft) ?_
      have b9_2 : zlt (q) := show q < 2147483648 by omega
      have b9_3 : zlt (ft) := show ft < 2147483648 by omega
      refine lv_icmp_ge (tgt := 47) hx hb dX11_choose_12 rfl (fun c_1 => ?_) (fun c_1 => ?_)
      · have c_1 : ((ft : Nat) : Int) ≤ ((q : Nat) : Int) := zc_le (nI_toInt b9_3) (nI_toInt b9_2) c_1
        refine lv_iconst (v := 0) hx hb dX11_choose_47 rfl ?_
        refine lv_istore_n (lv' := [(1, .int 0), (0, .ref k0)]) hx hb dX11_choose_48 rfl hl (Nat.le_of_ble_eq_true rfl) rfl (fun ls hl => ?_)
        have hl_49 : ∀ (n9 : Nat) (r9 : Nat) (pcn : Nat) (D : Nat → Prop) (mt1 : Nat → Int32) (mk1 : Nat → Int32) (jx1 : Nat → Int32) (jy1 : Nat → Int32) (gr1 : Nat → Int32) (S1 : Nat → Int32) (H : Heap) (locs : List Loc) (ls : Array Slot), ft - r9 < n9 → (r9 ≤ ft) → (chD (rdF ft st tn kd) (chW rk mn cx cy) D) → (r9 ≤ cntP D ft) → (∀ j, j < ft → mt1 j = pI (¬ (rdF ft st tn kd) j ∨ D j)) → (∀ j, j < ft → mk1 j = pI (D j ∧ (chM (rdF ft st tn kd) (chW rk mn cx cy) (chB cx cy) (chL mn cx cy)) j)) → (chI D (chB cx cy) (chL mn cx cy) (fun i => (jx1 i, jy1 i)) gr1 pcn) → (pcn ≤ 2 * r9) → va_P (dC, dI) classes [(om k0 a (upd I0 54 (nI pcn)) J0), (oa (a 5) cI 201 st), (oa (a 6) cZ 201 tn), (oa (a 1) cI 201 kd), (oa (a 2) cI 201 rk), (oa (a 11) cI 201 mn), (oa (a 12) cI 8040 cx), (oa (a 13) cI 8040 cy), (oa (a 32) cI 8 S1), (oa (a 50) cZ 201 mk1), (oa (a 37) cZ 201 mt1), (oa (a 51) cI 402 jx1), (oa (a 52) cI 402 jy1), (oa (a 53) cI 402 gr1)] H → va_D A [(om k0 a (upd I0 54 (nI pcn)) J0), (oa (a 5) cI 201 st), (oa (a 6) cZ 201 tn), (oa (a 1) cI 201 kd), (oa (a 2) cI 201 rk), (oa (a 11) cI 201 mn), (oa (a 12) cI 8040 cx), (oa (a 13) cI 8040 cy), (oa (a 32) cI 8 S1), (oa (a 50) cZ 201 mk1), (oa (a 37) cZ 201 mt1), (oa (a 51) cI 402 jx1), (oa (a 52) cI 402 jy1), (oa (a 53) cI 402 gr1)] → va_S A s.heap H locs → lv_has ls 7 [(1, .int (nI r9)), (0, .ref k0)] → W p l e ({ frames := 3, cells := 0, slots := 0, locals := 70 } : Room) s m ([.ref k0] : List Value).toArray below meth c H locs 0 0 Q9 (F0 m 49 ls []) := by
          intro n9
          induction n9 with
          | zero => intro r9 pcn D mt1 mk1 jx1 jy1 gr1 S1 H locs ls hm; exact absurd hm (Nat.not_lt_zero _)
          | succ n9 ih_49 =>
            intro r9 pcn D mt1 mk1 jx1 jy1 gr1 S1 H locs ls hm hr9 hDD hDc hmt hmk hcI hpn hP hD hS hl
            refine lv_iload_n hx hb dX11_choose_49 rfl (lv_at hl 0 rfl) ?_
            refine lv_aload_n hx hb dX11_choose_50 rfl (lv_at hl 1 rfl) ?_
            refine va_get (D := (dC, dI)) (ci := 9) (v := .int (I0 0)) (C := RX11) (T := TX11) (N := 55) hx hb hts inX11 hown hK hP 0 rfl rfl 0 (Nat.le_of_ble_eq_true rfl) (hts _ mw_1159) (fun _ h9 => h9) rfl dX11_choose_51 ?_
            refine zz_i (v := nI ft) (hft) ?_
            have b9_5 : zlt (r9) := show r9 < 2147483648 by omega
            refine lv_icmp_ge (tgt := 259) hx hb dX11_choose_54 rfl (fun c_4 => ?_) (fun c_4 => ?_)
            · have c_4 : ((ft : Nat) : Int) ≤ ((r9 : Nat) : Int) := zc_le (nI_toInt b9_3) (nI_toInt b9_5) c_4
              have hall : ∀ j, j < ft → (rdF ft st tn kd) j → D j := (by first | exact (fun j hj _ => cntP_all (by omega) j hj) | exact fun j hj hR => (bst_no hat (by omega) (by omega) j (by omega)).resolve_left (fun h => h hR))
              have hmkF : ∀ j, j < ft → mk1 j = pI ((chM (rdF ft st tn kd) (chW rk mn cx cy) (chB cx cy) (chL mn cx cy)) j) := fun j hj => (by rw [hmk j hj]; exact zp_iff ⟨fun h => h.2, fun h => ⟨hall j hj h.1, h⟩⟩)
              refine lv_aload_n hx hb dX11_choose_259 rfl (lv_at hl 1 rfl) ?_
              refine lv_bipush (v := 9) hx hb dX11_choose_260 rfl ?_
              obtain ⟨hPc, hDc, hFc⟩ := zo_sub (wc := [_, _]) hP hD hS hA [0, 9] rfl rfl
              refine zcall (st1 := [.int (-1)]) (va_runV (As := [.int 9]) (rest := []) ⟨hx, hb, hml, hown, hts⟩ (k_M_dropMarked_r l dC dI cI cZ cF H.size k0 a (upd I0 54 (nI pcn)) J0 9 ft mk1 (chM (rdF ft st tn kd) (chW rk mn cx cy) (chB cx cy) (chL mn cx cy)) (hft) (by first | with_reducible assumption | omega) (hmkF) (hz)) (csV_219 hts rfl rfl ⟨Nat.le_of_ble_eq_true rfl, Nat.le_of_ble_eq_true rfl⟩) (zPV2 (q0 := 0) (ci := 9) hPc hDc hK hXN rfl rfl) rfl rfl hl.1 rfl (lv_room (Nat.le_of_ble_eq_true rfl)) dX11_choose_262 ⟨Nat.le_of_ble_eq_true rfl, Nat.le_of_ble_eq_true rfl⟩) hS hFc hFc rfl (fun t H locs ht hB hk1 hS => ?_)
              obtain ⟨hP1, hD1⟩ := hB
              rw [ht] at hP1
              obtain ⟨hP, hD⟩ := zn (W2 := [(om k0 a (upd (upd (upd I0 14 8) 15 (I0 15)) 54 (nI pcn)) J0), _, _, _, _, _, _, _, _, _, _, _, _, _]) hP hD hk1 hFc hP1 hD1 [0, 9] zl_259 zl_259 [0, 9] (by decide +kernel) rfl rfl rfl rfl rfl
              clear hk1 hPc hDc hFc hP1 hD1 ht
              obtain ⟨hP9, hD9⟩ := zu_sub (wc := [_, _, _, _, _, _, _, _, _, _, _, _, _, _]) hP hD [true, true, true, true, true, true, true, true, true, true, true, true, true, true] rfl rfl
              rw [hQ9]
              exact W.iret (v := (-1)) hx hb hr (fun t ht hW => ⟨⟨rfl, pcn, S1, mk1, mt1, jx1, jy1, gr1, by rw [ht]; exact hP9, hD9⟩, hS.F ht⟩) hS.2.2 dX11_choose_265
            · have c_4 : ((r9 : Nat) : Int) < ((ft : Nat) : Int) := zc_nle (nI_toInt b9_3) (nI_toInt b9_5) c_4
              refine lv_iconst (v := (-1)) hx hb dX11_choose_57 rfl ?_
              refine lv_istore_n (lv' := [(2, .int (-1)), (1, .int (nI r9)), (0, .ref k0)]) hx hb dX11_choose_58 rfl hl (Nat.le_of_ble_eq_true rfl) rfl (fun ls hl => ?_)
              refine lv_iconst (v := 0) hx hb dX11_choose_59 rfl ?_
              refine lv_istore_n (lv' := [(3, .int 0), (2, .int (-1)), (1, .int (nI r9)), (0, .ref k0)]) hx hb dX11_choose_60 rfl hl (Nat.le_of_ble_eq_true rfl) rfl (fun ls hl => ?_)
              have hl_61 : ∀ (n9 : Nat) (q : Nat) (zb : Int32) (S2 : Nat → Int32) (H : Heap) (locs : List Loc) (ls : Array Slot), ft - q < n9 → (q ≤ ft) → (bstS (chW rk mn cx cy) (fun j => ¬ (rdF ft st tn kd) j ∨ D j) q zb) → va_P (dC, dI) classes [(om k0 a (upd I0 54 (nI pcn)) J0), (oa (a 5) cI 201 st), (oa (a 6) cZ 201 tn), (oa (a 1) cI 201 kd), (oa (a 2) cI 201 rk), (oa (a 11) cI 201 mn), (oa (a 12) cI 8040 cx), (oa (a 13) cI 8040 cy), (oa (a 32) cI 8 S2), (oa (a 50) cZ 201 mk1), (oa (a 37) cZ 201 mt1), (oa (a 51) cI 402 jx1), (oa (a 52) cI 402 jy1), (oa (a 53) cI 402 gr1)] H → va_D A [(om k0 a (upd I0 54 (nI pcn)) J0), (oa (a 5) cI 201 st), (oa (a 6) cZ 201 tn), (oa (a 1) cI 201 kd), (oa (a 2) cI 201 rk), (oa (a 11) cI 201 mn), (oa (a 12) cI 8040 cx), (oa (a 13) cI 8040 cy), (oa (a 32) cI 8 S2), (oa (a 50) cZ 201 mk1), (oa (a 37) cZ 201 mt1), (oa (a 51) cI 402 jx1), (oa (a 52) cI 402 jy1), (oa (a 53) cI 402 gr1)] → va_S A s.heap H locs → lv_has ls 7 [(3, .int (nI q)), (2, .int zb), (1, .int (nI r9)), (0, .ref k0)] → W p l e ({ frames := 3, cells := 0, slots := 0, locals := 70 } : Room) s m ([.ref k0] : List Value).toArray below meth c H locs 0 0 Q9 (F0 m 61 ls []) := by
                intro n9
                induction n9 with
                | zero => intro q zb S2 H locs ls hm; exact absurd hm (Nat.not_lt_zero _)
                | succ n9 ih_61 =>
                  intro q zb S2 H locs ls hm hq hat hP hD hS hl
                  refine lv_iload_n hx hb dX11_choose_61 rfl (lv_at hl 0 rfl) ?_
                  refine lv_aload_n hx hb dX11_choose_62 rfl (lv_at hl 3 rfl) ?_
                  refine va_get (D := (dC, dI)) (ci := 9) (v := .int (I0 0)) (C := RX11) (T := TX11) (N := 55) hx hb hts inX11 hown hK hP 0 rfl rfl 0 (Nat.le_of_ble_eq_true rfl) (hts _ mw_1159) (fun _ h9 => h9) rfl dX11_choose_63 ?_
                  refine zz_i (v := nI ft) (hft) ?_
                  have b9_7 : zlt (q) := show q < 2147483648 by omega
                  refine lv_icmp_ge (tgt := 105) hx hb dX11_choose_66 rfl (fun c_6 => ?_) (fun c_6 => ?_)
                  · have c_6 : ((ft : Nat) : Int) ≤ ((q : Nat) : Int) := zc_le (nI_toInt b9_3) (nI_toInt b9_7) c_6
                    refine lv_iload_n hx hb dX11_choose_105 rfl (lv_at hl 1 rfl) ?_
                    refine lv_iconst (v := (-1)) hx hb dX11_choose_106 rfl ?_
                    refine lv_icmp_ne (tgt := 113) hx hb dX11_choose_107 rfl (fun c_8 => ?_) (fun c_8 => ?_)
                    · have c_8 : ¬ zb.toInt = (-1) := zc_ne rfl rfl c_8
                      have hqf : q = ft := (by omega)
                      rw [hqf] at hat
                      obtain ⟨b9, hz9, hbk, hbF, hbm⟩ := bst_get hat (by omega)
                      have hRq_b9 : (rdF ft st tn kd) b9 := (Classical.byContradiction fun h => hbF (Or.inl h))
                      have hw_b9 := hwf b9 hRq_b9.1
                      have hn_b9 := hw_b9.2.1
                      have hk_b9 := hrk b9 hRq_b9.1
                      have hc_b9 := chW_b hk_b9 hw_b9
                      have hDb : ¬ D b9 := fun h => hbF (Or.inr h)
                      have hds := chD_s hDD (ft := ft) (fun q h => h.1.1) hRq_b9 hDb (fun j hj hR hn => hbm j hj (fun h => h.elim (fun h => h hR) hn))
                      refine lv_aload_n hx hb dX11_choose_113 rfl (lv_at hl 3 rfl) ?_
                      refine va_get (D := (dC, dI)) (ci := 9) (v := .ref (a 37)) (C := RX11) (T := TX11) (N := 55) hx hb hts inX11 hown hK hP 0 rfl rfl 37 (Nat.le_of_ble_eq_true rfl) (hts _ mw_1196) (fun _ h9 => h9) rfl dX11_choose_114 ?_
                      refine lv_iload_n hx hb dX11_choose_117 rfl (lv_at hl 1 rfl) ?_
                      refine zz_i (v := nI b9) (hz9) ?_
                      refine lv_iconst (v := 1) hx hb dX11_choose_118 rfl ?_
                      have b9_9 : b9 < 201 := by omega
                      refine z_zast hx hb hK hP hD hS 10 1 rfl rfl (e := b9) (x := 1) rfl b9_9 (Nat.le_of_ble_eq_true rfl) (by decide) dX11_choose_119 (fun H locs hP hD hS => ?_)
                      obtain ⟨hP, hD⟩ := zre (W2 := [_, _, _, _, _, _, _, _, _, _, (oa (a 37) cZ 201 (upd mt1 b9 1)), _, _, _]) hP hD rfl
                      refine lv_aload_n hx hb dX11_choose_120 rfl (lv_at hl 3 rfl) ?_
                      refine va_get (D := (dC, dI)) (ci := 9) (v := .ref (a 53)) (C := RX11) (T := TX11) (N := 55) hx hb hts inX11 hown hK hP 0 rfl rfl 53 (Nat.le_of_ble_eq_true rfl) (hts _ mw_1212) (fun _ h9 => h9) rfl dX11_choose_121 ?_
                      refine lv_aload_n hx hb dX11_choose_124 rfl (lv_at hl 3 rfl) ?_
                      refine lv_aload_n hx hb dX11_choose_125 rfl (lv_at hl 3 rfl) ?_
                      refine va_get (D := (dC, dI)) (ci := 9) (v := .ref (a 12)) (C := RX11) (T := TX11) (N := 55) hx hb hts inX11 hown hK hP 0 rfl rfl 12 (Nat.le_of_ble_eq_true rfl) (hts _ mw_1171) (fun _ h9 => h9) rfl dX11_choose_126 ?_
                      refine lv_bipush (v := 40) hx hb dX11_choose_129 rfl ?_
                      refine lv_iload_n hx hb dX11_choose_131 rfl (lv_at hl 1 rfl) ?_
                      refine zz_i (v := nI b9) (hz9) ?_
                      refine lv_imul hx hb dX11_choose_132 ?_
                      refine zz_i (v := nI (40 * b9)) (pk_mul 40 b9) ?_
                      have b9_10 : 40 * b9 < 8040 := by omega
                      refine z_iald hx hb hK hP 6 0 rfl rfl (e := 40 * b9) rfl b9_10 (Nat.le_of_ble_eq_true rfl) dX11_choose_133 ?_
                      refine lv_aload_n hx hb dX11_choose_134 rfl (lv_at hl 3 rfl) ?_
                      refine va_get (D := (dC, dI)) (ci := 9) (v := .ref (a 13)) (C := RX11) (T := TX11) (N := 55) hx hb hts inX11 hown hK hP 0 rfl rfl 13 (Nat.le_of_ble_eq_true rfl) (hts _ mw_1172) (fun _ h9 => h9) rfl dX11_choose_135 ?_
                      refine lv_bipush (v := 40) hx hb dX11_choose_138 rfl ?_
                      refine lv_iload_n hx hb dX11_choose_140 rfl (lv_at hl 1 rfl) ?_
                      refine zz_i (v := nI b9) (hz9) ?_
                      refine lv_imul hx hb dX11_choose_141 ?_
                      refine zz_i (v := nI (40 * b9)) (pk_mul 40 b9) ?_
                      refine z_iald hx hb hK hP 7 0 rfl rfl (e := 40 * b9) rfl b9_10 (Nat.le_of_ble_eq_true rfl) dX11_choose_142 ?_
                      obtain ⟨hPc, hDc, hFc⟩ := zo_sub (wc := [_, _, _, _]) hP hD hS hA [0, 11, 12, 13] (by decide +kernel) rfl
                      refine zcalle (va_runV (As := [.int (cx (40 * b9)), .int (cy (40 * b9))]) (rest := [.ref (a 53)]) ⟨hx, hb, hml, hown, hts⟩ (k_M_placeOf_u l dC dI cI cZ cF H.size k0 a (upd I0 54 (nI pcn)) J0 (cx (40 * b9)) (cy (40 * b9)) pcn jx1 jy1 gr1 (by first | with_reducible assumption | omega)) (csV_227 hts rfl rfl ⟨Nat.le_of_ble_eq_true rfl, Nat.le_of_ble_eq_true rfl⟩) (zPV2 (q0 := 0) (ci := 9) hPc hDc hK hXN rfl rfl) rfl rfl hl.1 rfl (lv_room (Nat.le_of_ble_eq_true rfl)) dX11_choose_143 ⟨Nat.le_of_ble_eq_true rfl, Nat.le_of_ble_eq_true rfl⟩) hS hFc hFc (fun v9 t H locs ht hB hk1 hS => ?_)
                      obtain ⟨pcA, iA, jxA, jyA, grA, rfl, hA1, hA2, hA3, hA4, hP1, hD1⟩ := hB
                      refine W.eq (g2 := F0 m 146 ls [.int (nI iA), .ref (a 53)]) rfl ?_
                      rw [ht] at hP1
                      obtain ⟨hP, hD⟩ := zn (W2 := [(om k0 a (upd I0 54 (nI pcA)) J0), _, _, _, _, _, _, _, _, _, _, (oa (a 51) cI 402 jxA), (oa (a 52) cI 402 jyA), (oa (a 53) cI 402 grA)]) hP hD hk1 hFc hP1 hD1 [0, 11, 12, 13] zl_260 zl_261 [0, 11, 12, 13] (by decide +kernel) rfl rfl rfl rfl rfl
                      clear hk1 hPc hDc hFc hP1 hD1 ht
                      have b9_11 : iA < 402 := by omega
                      refine z_iald hx hb hK hP 13 0 rfl rfl (e := iA) rfl b9_11 (Nat.le_of_ble_eq_true rfl) dX11_choose_146 ?_
                      refine lv_istore_n (lv' := [(3, .int (grA iA)), (2, .int zb), (1, .int (nI r9)), (0, .ref k0)]) hx hb dX11_choose_147 rfl hl (Nat.le_of_ble_eq_true rfl) rfl (fun ls hl => ?_)
                      refine lv_bipush (v := 40) hx hb dX11_choose_148 rfl ?_
                      refine lv_iload_n hx hb dX11_choose_150 rfl (lv_at hl 1 rfl) ?_
                      refine zz_i (v := nI b9) (hz9) ?_
                      refine lv_imul hx hb dX11_choose_151 ?_
                      refine zz_i (v := nI (40 * b9)) (pk_mul 40 b9) ?_
                      refine lv_aload_n hx hb dX11_choose_152 rfl (lv_at hl 3 rfl) ?_
                      refine va_get (D := (dC, dI)) (ci := 9) (v := .ref (a 11)) (C := RX11) (T := TX11) (N := 55) hx hb hts inX11 hown hK hP 0 rfl rfl 11 (Nat.le_of_ble_eq_true rfl) (hts _ mw_1170) (fun _ h9 => h9) rfl dX11_choose_153 ?_
                      refine lv_iload_n hx hb dX11_choose_156 rfl (lv_at hl 1 rfl) ?_
                      refine zz_i (v := nI b9) (hz9) ?_
                      refine z_iald hx hb hK hP 5 0 rfl rfl (e := b9) rfl b9_9 (Nat.le_of_ble_eq_true rfl) dX11_choose_157 ?_
                      refine zz_i (v := nI (nN (mn b9))) (hw_b9.1) ?_
                      refine lv_iadd hx hb dX11_choose_158 ?_
                      refine zz_i (v := nI (40 * b9 + (nN (mn b9)))) (nI_add (40 * b9) (nN (mn b9))) ?_
                      refine lv_iconst (v := 1) hx hb dX11_choose_159 rfl ?_
                      refine lv_isub hx hb dX11_choose_160 ?_
                      refine zz_i (v := nI ((40 * b9 + (nN (mn b9))) - 1)) (pk_sub (a := 40 * b9 + (nN (mn b9))) (b := 1) (by omega)) ?_
                      refine lv_istore (lv' := [(4, .int (nI ((40 * b9 + (nN (mn b9))) - 1))), (3, .int (grA iA)), (2, .int zb), (1, .int (nI r9)), (0, .ref k0)]) hx hb dX11_choose_161 hl (Nat.le_of_ble_eq_true rfl) rfl (fun ls hl => ?_)
                      refine lv_aload_n hx hb dX11_choose_163 rfl (lv_at hl 4 rfl) ?_
                      refine va_get (D := (dC, dI)) (ci := 9) (v := .ref (a 53)) (C := RX11) (T := TX11) (N := 55) hx hb hts inX11 hown hK hP 0 rfl rfl 53 (Nat.le_of_ble_eq_true rfl) (hts _ mw_1212) (fun _ h9 => h9) rfl dX11_choose_164 ?_
                      refine lv_aload_n hx hb dX11_choose_167 rfl (lv_at hl 4 rfl) ?_
                      refine lv_aload_n hx hb dX11_choose_168 rfl (lv_at hl 4 rfl) ?_
                      refine va_get (D := (dC, dI)) (ci := 9) (v := .ref (a 12)) (C := RX11) (T := TX11) (N := 55) hx hb hts inX11 hown hK hP 0 rfl rfl 12 (Nat.le_of_ble_eq_true rfl) (hts _ mw_1171) (fun _ h9 => h9) rfl dX11_choose_169 ?_
                      refine lv_iload hx hb dX11_choose_172 (lv_at hl 0 rfl) ?_
                      have b9_12 : (40 * b9 + (nN (mn b9))) - 1 < 8040 := by omega
                      refine z_iald hx hb hK hP 6 0 rfl rfl (e := (40 * b9 + (nN (mn b9))) - 1) rfl b9_12 (Nat.le_of_ble_eq_true rfl) dX11_choose_174 ?_
                      refine lv_aload_n hx hb dX11_choose_175 rfl (lv_at hl 4 rfl) ?_
                      refine va_get (D := (dC, dI)) (ci := 9) (v := .ref (a 13)) (C := RX11) (T := TX11) (N := 55) hx hb hts inX11 hown hK hP 0 rfl rfl 13 (Nat.le_of_ble_eq_true rfl) (hts _ mw_1172) (fun _ h9 => h9) rfl dX11_choose_176 ?_
                      refine lv_iload hx hb dX11_choose_179 (lv_at hl 0 rfl) ?_
                      refine z_iald hx hb hK hP 7 0 rfl rfl (e := (40 * b9 + (nN (mn b9))) - 1) rfl b9_12 (Nat.le_of_ble_eq_true rfl) dX11_choose_181 ?_
                      obtain ⟨hPc, hDc, hFc⟩ := zo_sub (wc := [_, _, _, _]) hP hD hS hA [0, 11, 12, 13] (by decide +kernel) rfl
                      refine zcalle (va_runV (As := [.int (cx ((40 * b9 + (nN (mn b9))) - 1)), .int (cy ((40 * b9 + (nN (mn b9))) - 1))]) (rest := [.ref (a 53)]) ⟨hx, hb, hml, hown, hts⟩ (k_M_placeOf_u l dC dI cI cZ cF H.size k0 a (upd I0 54 (nI pcA)) J0 (cx ((40 * b9 + (nN (mn b9))) - 1)) (cy ((40 * b9 + (nN (mn b9))) - 1)) pcA jxA jyA grA (by first | with_reducible assumption | omega)) (csV_227 hts rfl rfl ⟨Nat.le_of_ble_eq_true rfl, Nat.le_of_ble_eq_true rfl⟩) (zPV2 (q0 := 0) (ci := 9) hPc hDc hK hXN rfl rfl) rfl rfl hl.1 rfl (lv_room (Nat.le_of_ble_eq_true rfl)) dX11_choose_182 ⟨Nat.le_of_ble_eq_true rfl, Nat.le_of_ble_eq_true rfl⟩) hS hFc hFc (fun v9 t H locs ht hB hk1 hS => ?_)
                      obtain ⟨pcB, iB, jxB, jyB, grB, rfl, hB1, hB2, hB3, hB4, hP1, hD1⟩ := hB
                      refine W.eq (g2 := F0 m 185 ls [.int (nI iB), .ref (a 53)]) rfl ?_
                      rw [ht] at hP1
                      obtain ⟨hP, hD⟩ := zn (W2 := [(om k0 a (upd I0 54 (nI pcB)) J0), _, _, _, _, _, _, _, _, _, _, (oa (a 51) cI 402 jxB), (oa (a 52) cI 402 jyB), (oa (a 53) cI 402 grB)]) hP hD hk1 hFc hP1 hD1 [0, 11, 12, 13] zl_260 zl_261 [0, 11, 12, 13] (by decide +kernel) rfl rfl rfl rfl rfl
                      clear hk1 hPc hDc hFc hP1 hD1 ht
                      have b9_13 : iB < 402 := by omega
                      refine z_iald hx hb hK hP 13 0 rfl rfl (e := iB) rfl b9_13 (Nat.le_of_ble_eq_true rfl) dX11_choose_185 ?_
                      refine lv_istore (lv' := [(5, .int (grB iB)), (4, .int (nI ((40 * b9 + (nN (mn b9))) - 1))), (3, .int (grA iA)), (2, .int zb), (1, .int (nI r9)), (0, .ref k0)]) hx hb dX11_choose_186 hl (Nat.le_of_ble_eq_true rfl) rfl (fun ls hl => ?_)
                      have hcA := chI_ad hcI (by omega) hA2 hA3 hA4
                      have hcB := chI_ad hcA (by omega) hB2 hB3 hB4
                      have hgA : grB iA = grA iA := (hB3 iA hA1.1).2.2
                      have hiA : iA < pcB := (by omega)
                      have eA : (fun i => (jxB i, jyB i)) iA = (chB cx cy) b9 := (by show (jxB iA, jyB iA) = _; rw [(hB3 iA hA1.1).1, (hB3 iA hA1.1).2.1]; exact hA2)
                      have hmq := chQ hRq_b9 hds.2 hcB hiA hB1.1 eA hB2
                      rw [hgA] at hmq
                      refine lv_aload_n hx hb dX11_choose_188 rfl (lv_at hl 5 rfl) ?_
                      refine va_get (D := (dC, dI)) (ci := 9) (v := .ref (a 50)) (C := RX11) (T := TX11) (N := 55) hx hb hts inX11 hown hK hP 0 rfl rfl 50 (Nat.le_of_ble_eq_true rfl) (hts _ mw_1209) (fun _ h9 => h9) rfl dX11_choose_189 ?_
                      refine lv_iload_n hx hb dX11_choose_192 rfl (lv_at hl 3 rfl) ?_
                      refine zz_i (v := nI b9) (hz9) ?_
                      refine lv_iload_n hx hb dX11_choose_193 rfl (lv_at hl 2 rfl) ?_
                      refine lv_iload hx hb dX11_choose_194 (lv_at hl 0 rfl) ?_
                      have hj_14 : W p l e ({ frames := 3, cells := 0, slots := 0, locals := 70 } : Room) s m ([.ref k0] : List Value).toArray below meth c H locs 0 0 Q9 (F0 m 204 ls [.int (pI ((chM (rdF ft st tn kd) (chW rk mn cx cy) (chB cx cy) (chL mn cx cy)) b9)), .int (nI b9), .ref (a 50)]) := by
                        refine z_zast hx hb hK hP hD hS 9 1 rfl rfl (e := b9) (x := pI ((chM (rdF ft st tn kd) (chW rk mn cx cy) (chB cx cy) (chL mn cx cy)) b9)) rfl b9_9 (Nat.le_of_ble_eq_true rfl) (zp_and _) dX11_choose_204 (fun H locs hP hD hS => ?_)
                        obtain ⟨hP, hD⟩ := zre (W2 := [_, _, _, _, _, _, _, _, _, (oa (a 50) cZ 201 (upd mk1 b9 (pI ((chM (rdF ft st tn kd) (chW rk mn cx cy) (chB cx cy) (chL mn cx cy)) b9)))), _, _, _, _]) hP hD rfl
                        refine lv_iconst (v := 0) hx hb dX11_choose_205 rfl ?_
                        refine lv_istore (lv' := [(6, .int 0), (5, .int (grB iB)), (4, .int (nI ((40 * b9 + (nN (mn b9))) - 1))), (3, .int (grA iA)), (2, .int zb), (1, .int (nI r9)), (0, .ref k0)]) hx hb dX11_choose_206 hl (Nat.le_of_ble_eq_true rfl) rfl (fun ls hl => ?_)
                        have hl_208 : ∀ (n9 : Nat) (k : Nat) (gr2 : Nat → Int32) (H : Heap) (locs : List Loc) (ls : Array Slot), pcB - k < n9 → (k ≤ pcB) → (∀ j, j < k → gr2 j = if grB j = grB iB then grA iA else grB j) → (∀ j, k ≤ j → gr2 j = grB j) → va_P (dC, dI) classes [(om k0 a (upd I0 54 (nI pcB)) J0), (oa (a 5) cI 201 st), (oa (a 6) cZ 201 tn), (oa (a 1) cI 201 kd), (oa (a 2) cI 201 rk), (oa (a 11) cI 201 mn), (oa (a 12) cI 8040 cx), (oa (a 13) cI 8040 cy), (oa (a 32) cI 8 S2), (oa (a 50) cZ 201 (upd mk1 b9 (pI ((chM (rdF ft st tn kd) (chW rk mn cx cy) (chB cx cy) (chL mn cx cy)) b9)))), (oa (a 37) cZ 201 (upd mt1 b9 1)), (oa (a 51) cI 402 jxB), (oa (a 52) cI 402 jyB), (oa (a 53) cI 402 gr2)] H → va_D A [(om k0 a (upd I0 54 (nI pcB)) J0), (oa (a 5) cI 201 st), (oa (a 6) cZ 201 tn), (oa (a 1) cI 201 kd), (oa (a 2) cI 201 rk), (oa (a 11) cI 201 mn), (oa (a 12) cI 8040 cx), (oa (a 13) cI 8040 cy), (oa (a 32) cI 8 S2), (oa (a 50) cZ 201 (upd mk1 b9 (pI ((chM (rdF ft st tn kd) (chW rk mn cx cy) (chB cx cy) (chL mn cx cy)) b9)))), (oa (a 37) cZ 201 (upd mt1 b9 1)), (oa (a 51) cI 402 jxB), (oa (a 52) cI 402 jyB), (oa (a 53) cI 402 gr2)] → va_S A s.heap H locs → lv_has ls 7 [(6, .int (nI k)), (5, .int (grB iB)), (4, .int (nI ((40 * b9 + (nN (mn b9))) - 1))), (3, .int (grA iA)), (2, .int zb), (1, .int (nI r9)), (0, .ref k0)] → W p l e ({ frames := 3, cells := 0, slots := 0, locals := 70 } : Room) s m ([.ref k0] : List Value).toArray below meth c H locs 0 0 Q9 (F0 m 208 ls []) := by
                          intro n9
                          induction n9 with
                          | zero => intro k gr2 H locs ls hm; exact absurd hm (Nat.not_lt_zero _)
                          | succ n9 ih_208 =>
                            intro k gr2 H locs ls hm hk9 hg1 hg2 hP hD hS hl
                            refine lv_iload hx hb dX11_choose_208 (lv_at hl 0 rfl) ?_
                            refine lv_aload_n hx hb dX11_choose_210 rfl (lv_at hl 6 rfl) ?_
                            refine va_get (D := (dC, dI)) (ci := 9) (v := .int (nI pcB)) (C := RX11) (T := TX11) (N := 55) hx hb hts inX11 hown hK hP 0 rfl rfl 54 (Nat.le_of_ble_eq_true rfl) (hts _ mw_1213) (fun _ h9 => h9) rfl dX11_choose_211 ?_
                            have b9_16 : zlt (k) := show k < 2147483648 by omega
                            have b9_17 : zlt (pcB) := show pcB < 2147483648 by omega
                            refine lv_icmp_ge (tgt := 253) hx hb dX11_choose_214 rfl (fun c_15 => ?_) (fun c_15 => ?_)
                            · have c_15 : ((pcB : Nat) : Int) ≤ ((k : Nat) : Int) := zc_le (nI_toInt b9_17) (nI_toInt b9_16) c_15
                              refine lv_iinc (v := nI (r9 + 1)) (lv' := [(1, .int (nI (r9 + 1))), (6, .int (nI k)), (5, .int (grB iB)), (4, .int (nI ((40 * b9 + (nN (mn b9))) - 1))), (3, .int (grA iA)), (2, .int zb), (0, .ref k0)]) hx hb dX11_choose_253 hl (k := 5) rfl (nI_add r9 1) (Nat.le_of_ble_eq_true rfl) rfl (fun ls hl => ?_)
                              refine lv_goto (tgt := 49) hx hb dX11_choose_256 rfl ?_
                              exact ih_49 (r9 + 1) pcB (fun j => D j ∨ j = b9) (upd mt1 b9 1) (upd mk1 b9 (pI ((chM (rdF ft st tn kd) (chW rk mn cx cy) (chB cx cy) (chL mn cx cy)) b9))) jxB jyB gr2 S2 H locs ls (by first | with_reducible assumption | omega) (by first | with_reducible assumption | omega) (hds.1) (Nat.lt_of_le_of_lt hDc (cntP_lt (fun j h => Or.inl h) hbk (Or.inr rfl) hDb)) (chT_s hmt) (chK_s hmk) (chI_un hcB hiA hB1.1 eA hB2 (fun k9 h9 => by rw [hgA]; exact hg1 k9 (by first | with_reducible assumption | omega))) (by first | with_reducible assumption | omega) hP hD hS (lv_sub hl [0, 6] rfl)
                            · have c_15 : ((k : Nat) : Int) < ((pcB : Nat) : Int) := zc_nle (nI_toInt b9_17) (nI_toInt b9_16) c_15
                              refine lv_aload_n hx hb dX11_choose_217 rfl (lv_at hl 6 rfl) ?_
                              refine va_get (D := (dC, dI)) (ci := 9) (v := .ref (a 53)) (C := RX11) (T := TX11) (N := 55) hx hb hts inX11 hown hK hP 0 rfl rfl 53 (Nat.le_of_ble_eq_true rfl) (hts _ mw_1212) (fun _ h9 => h9) rfl dX11_choose_218 ?_
                              refine lv_iload hx hb dX11_choose_221 (lv_at hl 0 rfl) ?_
                              refine lv_aload_n hx hb dX11_choose_223 rfl (lv_at hl 6 rfl) ?_
                              refine va_get (D := (dC, dI)) (ci := 9) (v := .ref (a 53)) (C := RX11) (T := TX11) (N := 55) hx hb hts inX11 hown hK hP 0 rfl rfl 53 (Nat.le_of_ble_eq_true rfl) (hts _ mw_1212) (fun _ h9 => h9) rfl dX11_choose_224 ?_
                              refine lv_iload hx hb dX11_choose_227 (lv_at hl 0 rfl) ?_
                              have b9_18 : k < 402 := by omega
                              refine z_iald hx hb hK hP 13 0 rfl rfl (e := k) rfl b9_18 (Nat.le_of_ble_eq_true rfl) dX11_choose_229 ?_
                              refine lv_iload hx hb dX11_choose_230 (lv_at hl 1 rfl) ?_
                              refine lv_icmp_ne (tgt := 239) hx hb dX11_choose_232 rfl (fun c_19 => ?_) (fun c_19 => ?_)
                              · have c_19 : ¬ (gr2 k).toInt = (grB iB).toInt := zc_ne rfl rfl c_19
                                refine lv_aload_n hx hb dX11_choose_239 rfl (lv_at hl 6 rfl) ?_
                                refine va_get (D := (dC, dI)) (ci := 9) (v := .ref (a 53)) (C := RX11) (T := TX11) (N := 55) hx hb hts inX11 hown hK hP 0 rfl rfl 53 (Nat.le_of_ble_eq_true rfl) (hts _ mw_1212) (fun _ h9 => h9) rfl dX11_choose_240 ?_
                                refine lv_iload hx hb dX11_choose_243 (lv_at hl 0 rfl) ?_
                                refine z_iald hx hb hK hP 13 0 rfl rfl (e := k) rfl b9_18 (Nat.le_of_ble_eq_true rfl) dX11_choose_245 ?_
                                refine z_iast hx hb hK hP hD hS 13 0 rfl rfl (e := k) (x := gr2 k) rfl b9_18 (Nat.le_of_ble_eq_true rfl) dX11_choose_246 (fun H locs hP hD hS => ?_)
                                obtain ⟨hP, hD⟩ := zre (W2 := [_, _, _, _, _, _, _, _, _, _, _, _, _, (oa (a 53) cI 402 (upd gr2 k (gr2 k)))]) hP hD rfl
                                refine lv_iinc (v := nI (k + 1)) (lv' := [(6, .int (nI (k + 1))), (5, .int (grB iB)), (4, .int (nI ((40 * b9 + (nN (mn b9))) - 1))), (3, .int (grA iA)), (2, .int zb), (1, .int (nI r9)), (0, .ref k0)]) hx hb dX11_choose_247 hl (k := 0) rfl (nI_add k 1) (Nat.le_of_ble_eq_true rfl) rfl (fun ls hl => ?_)
                                refine lv_goto (tgt := 208) hx hb dX11_choose_250 rfl ?_
                                exact ih_208 (k + 1) (upd gr2 k (gr2 k)) H locs ls (by first | with_reducible assumption | omega) (by first | with_reducible assumption | omega) (chG_s hg1 (hg2 k (Nat.le_refl _)) (by first | exact Or.inl ⟨by omega, rfl⟩ | exact Or.inr ⟨by omega, rfl⟩)) (fun j hj => by rw [show upd gr2 k _ j = gr2 j from if_neg (by first | with_reducible assumption | omega)]; exact hg2 j (by first | with_reducible assumption | omega)) hP hD hS (lv_sub hl [0, 1, 2, 3, 4, 5, 6] rfl)
                              · have c_19 : (gr2 k).toInt = (grB iB).toInt := zc_eq rfl rfl c_19
                                refine lv_iload_n hx hb dX11_choose_235 rfl (lv_at hl 3 rfl) ?_
                                refine lv_goto (tgt := 246) hx hb dX11_choose_236 rfl ?_
                                refine z_iast hx hb hK hP hD hS 13 0 rfl rfl (e := k) (x := grA iA) rfl b9_18 (Nat.le_of_ble_eq_true rfl) dX11_choose_246 (fun H locs hP hD hS => ?_)
                                obtain ⟨hP, hD⟩ := zre (W2 := [_, _, _, _, _, _, _, _, _, _, _, _, _, (oa (a 53) cI 402 (upd gr2 k (grA iA)))]) hP hD rfl
                                refine lv_iinc (v := nI (k + 1)) (lv' := [(6, .int (nI (k + 1))), (5, .int (grB iB)), (4, .int (nI ((40 * b9 + (nN (mn b9))) - 1))), (3, .int (grA iA)), (2, .int zb), (1, .int (nI r9)), (0, .ref k0)]) hx hb dX11_choose_247 hl (k := 0) rfl (nI_add k 1) (Nat.le_of_ble_eq_true rfl) rfl (fun ls hl => ?_)
                                refine lv_goto (tgt := 208) hx hb dX11_choose_250 rfl ?_
                                exact ih_208 (k + 1) (upd gr2 k (grA iA)) H locs ls (by first | with_reducible assumption | omega) (by first | with_reducible assumption | omega) (chG_s hg1 (hg2 k (Nat.le_refl _)) (by first | exact Or.inl ⟨by omega, rfl⟩ | exact Or.inr ⟨by omega, rfl⟩)) (fun j hj => by rw [show upd gr2 k _ j = gr2 j from if_neg (by first | with_reducible assumption | omega)]; exact hg2 j (by first | with_reducible assumption | omega)) hP hD hS (lv_sub hl [0, 1, 2, 3, 4, 5, 6] rfl)
                        exact hl_208 _ 0 grB H locs ls (Nat.lt_succ_self _) (by first | with_reducible assumption | omega) (by intro j hj; omega) (fun j hj => rfl) hP hD hS (lv_sub hl [0, 1, 2, 3, 4, 5, 6] rfl)
                      refine lv_icmp_ne (tgt := 203) hx hb dX11_choose_196 rfl (fun c_20 => ?_) (fun c_20 => ?_)
                      · have c_20 : ¬ (grA iA).toInt = (grB iB).toInt := zc_ne rfl rfl c_20
                        refine lv_iconst (v := 0) hx hb dX11_choose_203 rfl ?_
                        refine zz_i (v := pI ((chM (rdF ft st tn kd) (chW rk mn cx cy) (chB cx cy) (chL mn cx cy)) b9)) (by first | exact (zp_t (hmq.mpr (by omega))).symm | exact (zp_f (fun h => absurd (hmq.mp h) (by omega))).symm) ?_
                        exact hj_14 
                      · have c_20 : (grA iA).toInt = (grB iB).toInt := zc_eq rfl rfl c_20
                        refine lv_iconst (v := 1) hx hb dX11_choose_199 rfl ?_
                        refine lv_goto (tgt := 204) hx hb dX11_choose_200 rfl ?_
                        refine zz_i (v := pI ((chM (rdF ft st tn kd) (chW rk mn cx cy) (chB cx cy) (chL mn cx cy)) b9)) (by first | exact (zp_t (hmq.mpr (by omega))).symm | exact (zp_f (fun h => absurd (hmq.mp h) (by omega))).symm) ?_
                        exact hj_14 
                    · have c_8 : zb.toInt = (-1) := zc_eq rfl rfl c_8
                      refine lv_goto (tgt := 259) hx hb dX11_choose_110 rfl ?_
                      have hall : ∀ j, j < ft → (rdF ft st tn kd) j → D j := (by first | exact (fun j hj _ => cntP_all (by omega) j hj) | exact fun j hj hR => (bst_no hat (by omega) (by omega) j (by omega)).resolve_left (fun h => h hR))
                      have hmkF : ∀ j, j < ft → mk1 j = pI ((chM (rdF ft st tn kd) (chW rk mn cx cy) (chB cx cy) (chL mn cx cy)) j) := fun j hj => (by rw [hmk j hj]; exact zp_iff ⟨fun h => h.2, fun h => ⟨hall j hj h.1, h⟩⟩)
                      refine lv_aload_n hx hb dX11_choose_259 rfl (lv_at hl 3 rfl) ?_
                      refine lv_bipush (v := 9) hx hb dX11_choose_260 rfl ?_
                      obtain ⟨hPc, hDc, hFc⟩ := zo_sub (wc := [_, _]) hP hD hS hA [0, 9] rfl rfl
                      refine zcall (st1 := [.int (-1)]) (va_runV (As := [.int 9]) (rest := []) ⟨hx, hb, hml, hown, hts⟩ (k_M_dropMarked_r l dC dI cI cZ cF H.size k0 a (upd I0 54 (nI pcn)) J0 9 ft mk1 (chM (rdF ft st tn kd) (chW rk mn cx cy) (chB cx cy) (chL mn cx cy)) (hft) (by first | with_reducible assumption | omega) (hmkF) (hz)) (csV_219 hts rfl rfl ⟨Nat.le_of_ble_eq_true rfl, Nat.le_of_ble_eq_true rfl⟩) (zPV2 (q0 := 0) (ci := 9) hPc hDc hK hXN rfl rfl) rfl rfl hl.1 rfl (lv_room (Nat.le_of_ble_eq_true rfl)) dX11_choose_262 ⟨Nat.le_of_ble_eq_true rfl, Nat.le_of_ble_eq_true rfl⟩) hS hFc hFc rfl (fun t H locs ht hB hk1 hS => ?_)
                      obtain ⟨hP1, hD1⟩ := hB
                      rw [ht] at hP1
                      obtain ⟨hP, hD⟩ := zn (W2 := [(om k0 a (upd (upd (upd I0 14 8) 15 (I0 15)) 54 (nI pcn)) J0), _, _, _, _, _, _, _, _, _, _, _, _, _]) hP hD hk1 hFc hP1 hD1 [0, 9] zl_259 zl_259 [0, 9] (by decide +kernel) rfl rfl rfl rfl rfl
                      clear hk1 hPc hDc hFc hP1 hD1 ht
                      obtain ⟨hP9, hD9⟩ := zu_sub (wc := [_, _, _, _, _, _, _, _, _, _, _, _, _, _]) hP hD [true, true, true, true, true, true, true, true, true, true, true, true, true, true] rfl rfl
                      rw [hQ9]
                      exact W.iret (v := (-1)) hx hb hr (fun t ht hW => ⟨⟨rfl, pcn, S2, mk1, mt1, jx1, jy1, gr1, by rw [ht]; exact hP9, hD9⟩, hS.F ht⟩) hS.2.2 dX11_choose_265
                  · have c_6 : ((q : Nat) : Int) < ((ft : Nat) : Int) := zc_nle (nI_toInt b9_3) (nI_toInt b9_7) c_6
                    refine lv_aload_n hx hb dX11_choose_69 rfl (lv_at hl 3 rfl) ?_
                    refine va_get (D := (dC, dI)) (ci := 9) (v := .ref (a 37)) (C := RX11) (T := TX11) (N := 55) hx hb hts inX11 hown hK hP 0 rfl rfl 37 (Nat.le_of_ble_eq_true rfl) (hts _ mw_1196) (fun _ h9 => h9) rfl dX11_choose_70 ?_
                    refine lv_iload_n hx hb dX11_choose_73 rfl (lv_at hl 0 rfl) ?_
                    have b9_21 : q < 201 := by omega
                    refine z_zald hx hb hK hP 10 1 rfl rfl (e := q) rfl b9_21 (Nat.le_of_ble_eq_true rfl) dX11_choose_74 ?_
                    refine zz_i (v := pI (¬ (rdF ft st tn kd) q ∨ D q)) (hmt q (by omega)) ?_
                    refine lv_if_ne (tgt := 99) hx hb dX11_choose_75 rfl (fun c_22 => ?_) (fun c_22 => ?_)
                    · have c_22 : ¬ (rdF ft st tn kd) q ∨ D q := zp_1 c_22
                      refine lv_iinc (v := nI (q + 1)) (lv' := [(3, .int (nI (q + 1))), (2, .int zb), (1, .int (nI r9)), (0, .ref k0)]) hx hb dX11_choose_99 hl (k := 0) rfl (nI_add q 1) (Nat.le_of_ble_eq_true rfl) rfl (fun ls hl => ?_)
                      refine lv_goto (tgt := 61) hx hb dX11_choose_102 rfl ?_
                      exact ih_61 (q + 1) zb S2 H locs ls (by first | with_reducible assumption | omega) (by first | with_reducible assumption | omega) (by first | exact bst_f hat (by first | with_reducible assumption | assumption) | exact bst_n hat (by first | with_reducible assumption | omega) (by first | with_reducible assumption | omega) (by first | with_reducible assumption | assumption) | exact bst_l hz9 hbk hbF hbm (by first | with_reducible assumption | assumption) (by first | with_reducible assumption | omega) | exact bst_g hz9 hbk hbF hbm (by first | with_reducible assumption | omega)) hP hD hS (lv_sub hl [0, 1, 2, 3] rfl)
                    · have c_22 : ¬ (¬ (rdF ft st tn kd) q ∨ D q) := zp_0 c_22
                      refine lv_iload_n hx hb dX11_choose_78 rfl (lv_at hl 1 rfl) ?_
                      refine lv_iconst (v := (-1)) hx hb dX11_choose_79 rfl ?_
                      refine lv_icmp_eq (tgt := 97) hx hb dX11_choose_80 rfl (fun c_23 => ?_) (fun c_23 => ?_)
                      · have c_23 : zb.toInt = (-1) := zc_eq rfl rfl c_23
                        refine lv_iload_n hx hb dX11_choose_97 rfl (lv_at hl 0 rfl) ?_
                        refine lv_istore_n (lv' := [(2, .int (nI q)), (3, .int (nI q)), (1, .int (nI r9)), (0, .ref k0)]) hx hb dX11_choose_98 rfl hl (Nat.le_of_ble_eq_true rfl) rfl (fun ls hl => ?_)
                        refine lv_iinc (v := nI (q + 1)) (lv' := [(3, .int (nI (q + 1))), (2, .int (nI q)), (1, .int (nI r9)), (0, .ref k0)]) hx hb dX11_choose_99 hl (k := 1) rfl (nI_add q 1) (Nat.le_of_ble_eq_true rfl) rfl (fun ls hl => ?_)
                        refine lv_goto (tgt := 61) hx hb dX11_choose_102 rfl ?_
                        exact ih_61 (q + 1) (nI q) S2 H locs ls (by first | with_reducible assumption | omega) (by first | with_reducible assumption | omega) (by first | exact bst_f hat (by first | with_reducible assumption | assumption) | exact bst_n hat (by first | with_reducible assumption | omega) (by first | with_reducible assumption | omega) (by first | with_reducible assumption | assumption) | exact bst_l hz9 hbk hbF hbm (by first | with_reducible assumption | assumption) (by first | with_reducible assumption | omega) | exact bst_g hz9 hbk hbF hbm (by first | with_reducible assumption | omega)) hP hD hS (lv_sub hl [0, 1, 2, 3] rfl)
                      · have c_23 : ¬ zb.toInt = (-1) := zc_ne rfl rfl c_23
                        have hRq_q : (rdF ft st tn kd) q := (Classical.byContradiction fun h => (show ¬ (¬ (rdF ft st tn kd) q ∨ D q) by assumption) (Or.inl h))
                        have hw_q := hwf q hRq_q.1
                        have hn_q := hw_q.2.1
                        have hk_q := hrk q hRq_q.1
                        have hc_q := chW_b hk_q hw_q
                        refine lv_aload_n hx hb dX11_choose_83 rfl (lv_at hl 3 rfl) ?_
                        refine lv_iload_n hx hb dX11_choose_84 rfl (lv_at hl 0 rfl) ?_
                        obtain ⟨hPc, hDc, hFc⟩ := zo_sub (wc := [_, _, _, _, _, _]) hP hD hS hA [0, 4, 5, 6, 7, 8] (by decide +kernel) rfl
                        refine zcall (st1 := [.long (jI (((rk q).toInt + 1) * ((ln2 (cF40 cx q) (cF40 cy q) ((nN (mn q)) - 1) : Nat) : Int)))]) (va_runV (As := [.int (nI q)]) (rest := []) ⟨hx, hb, hml, hown, hts⟩ (k_M_weight l dC dI cI cZ cF H.size k0 a (upd I0 54 (nI pcn)) J0 q (nN (mn q)) rk mn cx cy S2 (by first | with_reducible assumption | omega) (hw_q.1) (hw_q.2.1) (hw_q.2.2) (hk_q)) (csV_228 hts rfl rfl ⟨Nat.le_of_ble_eq_true rfl, Nat.le_of_ble_eq_true rfl⟩) (zPV2 (q0 := 0) (ci := 9) hPc hDc hK hXN rfl rfl) rfl rfl hl.1 rfl (lv_room (Nat.le_of_ble_eq_true rfl)) dX11_choose_85 ⟨Nat.le_of_ble_eq_true rfl, Nat.le_of_ble_eq_true rfl⟩) hS hFc hFc rfl (fun t H locs ht hB hk1 hS => ?_)
                        obtain ⟨S3, hP1, hD1⟩ := hB
                        rw [ht] at hP1
                        obtain ⟨hP, hD⟩ := zn (W2 := [_, _, _, _, _, _, _, _, (oa (a 32) cI 8 S3), _, _, _, _, _]) hP hD hk1 hFc hP1 hD1 [0, 4, 5, 6, 7, 8] zl_262 zl_262 [0, 4, 5, 6, 7, 8] (by decide +kernel) rfl rfl rfl rfl rfl
                        clear hk1 hPc hDc hFc hP1 hD1 ht
                        refine zz_l (v := jI ((chW rk mn cx cy q : Nat) : Int)) (chW_e hk_q) ?_
                        refine lv_aload_n hx hb dX11_choose_88 rfl (lv_at hl 3 rfl) ?_
                        obtain ⟨b9, hz9, hbk, hbF, hbm⟩ := bst_get hat (by omega)
                        have hRq_b9 : (rdF ft st tn kd) b9 := (Classical.byContradiction fun h => hbF (Or.inl h))
                        have hw_b9 := hwf b9 hRq_b9.1
                        have hn_b9 := hw_b9.2.1
                        have hk_b9 := hrk b9 hRq_b9.1
                        have hc_b9 := chW_b hk_b9 hw_b9
                        refine lv_iload_n hx hb dX11_choose_89 rfl (lv_at hl 1 rfl) ?_
                        refine zz_i (v := nI b9) (hz9) ?_
                        obtain ⟨hPc, hDc, hFc⟩ := zo_sub (wc := [_, _, _, _, _, _]) hP hD hS hA [0, 4, 5, 6, 7, 8] (by decide +kernel) rfl
                        refine zcall (st1 := [.long (jI (((rk b9).toInt + 1) * ((ln2 (cF40 cx b9) (cF40 cy b9) ((nN (mn b9)) - 1) : Nat) : Int))), .long (jI ((chW rk mn cx cy q : Nat) : Int))]) (va_runV (As := [.int (nI b9)]) (rest := [.long (jI ((chW rk mn cx cy q : Nat) : Int))]) ⟨hx, hb, hml, hown, hts⟩ (k_M_weight l dC dI cI cZ cF H.size k0 a (upd I0 54 (nI pcn)) J0 b9 (nN (mn b9)) rk mn cx cy S3 (by first | with_reducible assumption | omega) (hw_b9.1) (hw_b9.2.1) (hw_b9.2.2) (hk_b9)) (csV_228 hts rfl rfl ⟨Nat.le_of_ble_eq_true rfl, Nat.le_of_ble_eq_true rfl⟩) (zPV2 (q0 := 0) (ci := 9) hPc hDc hK hXN rfl rfl) rfl rfl hl.1 rfl (lv_room (Nat.le_of_ble_eq_true rfl)) dX11_choose_90 ⟨Nat.le_of_ble_eq_true rfl, Nat.le_of_ble_eq_true rfl⟩) hS hFc hFc rfl (fun t H locs ht hB hk1 hS => ?_)
                        obtain ⟨S4, hP1, hD1⟩ := hB
                        rw [ht] at hP1
                        obtain ⟨hP, hD⟩ := zn (W2 := [_, _, _, _, _, _, _, _, (oa (a 32) cI 8 S4), _, _, _, _, _]) hP hD hk1 hFc hP1 hD1 [0, 4, 5, 6, 7, 8] zl_262 zl_262 [0, 4, 5, 6, 7, 8] (by decide +kernel) rfl rfl rfl rfl rfl
                        clear hk1 hPc hDc hFc hP1 hD1 ht
                        refine zz_l (v := jI ((chW rk mn cx cy b9 : Nat) : Int)) (chW_e hk_b9) ?_
                        refine W.lcmp hx hb dX11_choose_93 ?_
                        refine lv_if_ge (tgt := 99) hx hb dX11_choose_94 rfl (fun c_24 => ?_) (fun c_24 => ?_)
                        · have c_24 : ((chW rk mn cx cy b9 : Nat) : Int) ≤ ((chW rk mn cx cy q : Nat) : Int) := zl_ge (jI_toInt (by omega)) (jI_toInt (by omega)) c_24
                          refine lv_iinc (v := nI (q + 1)) (lv' := [(3, .int (nI (q + 1))), (2, .int zb), (1, .int (nI r9)), (0, .ref k0)]) hx hb dX11_choose_99 hl (k := 0) rfl (nI_add q 1) (Nat.le_of_ble_eq_true rfl) rfl (fun ls hl => ?_)
                          refine lv_goto (tgt := 61) hx hb dX11_choose_102 rfl ?_
                          exact ih_61 (q + 1) zb S4 H locs ls (by first | with_reducible assumption | omega) (by first | with_reducible assumption | omega) (by first | exact bst_f hat (by first | with_reducible assumption | assumption) | exact bst_n hat (by first | with_reducible assumption | omega) (by first | with_reducible assumption | omega) (by first | with_reducible assumption | assumption) | exact bst_l hz9 hbk hbF hbm (by first | with_reducible assumption | assumption) (by first | with_reducible assumption | omega) | exact bst_g hz9 hbk hbF hbm (by first | with_reducible assumption | omega)) hP hD hS (lv_sub hl [0, 1, 2, 3] rfl)
                        · have c_24 : ((chW rk mn cx cy q : Nat) : Int) < ((chW rk mn cx cy b9 : Nat) : Int) := zl_nge (jI_toInt (by omega)) (jI_toInt (by omega)) c_24
                          refine lv_iload_n hx hb dX11_choose_97 rfl (lv_at hl 0 rfl) ?_
                          refine lv_istore_n (lv' := [(2, .int (nI q)), (3, .int (nI q)), (1, .int (nI r9)), (0, .ref k0)]) hx hb dX11_choose_98 rfl hl (Nat.le_of_ble_eq_true rfl) rfl (fun ls hl => ?_)
                          refine lv_iinc (v := nI (q + 1)) (lv' := [(3, .int (nI (q + 1))), (2, .int (nI q)), (1, .int (nI r9)), (0, .ref k0)]) hx hb dX11_choose_99 hl (k := 1) rfl (nI_add q 1) (Nat.le_of_ble_eq_true rfl) rfl (fun ls hl => ?_)
                          refine lv_goto (tgt := 61) hx hb dX11_choose_102 rfl ?_
                          exact ih_61 (q + 1) (nI q) S4 H locs ls (by first | with_reducible assumption | omega) (by first | with_reducible assumption | omega) (by first | exact bst_f hat (by first | with_reducible assumption | assumption) | exact bst_n hat (by first | with_reducible assumption | omega) (by first | with_reducible assumption | omega) (by first | with_reducible assumption | assumption) | exact bst_l hz9 hbk hbF hbm (by first | with_reducible assumption | assumption) (by first | with_reducible assumption | omega) | exact bst_g hz9 hbk hbF hbm (by first | with_reducible assumption | omega)) hP hD hS (lv_sub hl [0, 1, 2, 3] rfl)
              exact hl_61 _ 0 (-1) S1 H locs ls (Nat.lt_succ_self _) (by first | with_reducible assumption | omega) (bst_0 _ _) hP hD hS (lv_sub hl [0, 1, 2, 3] rfl)
        exact hl_49 _ 0 0 (fun _ => False) mt0 mk0 jx jy gr S0 H locs ls (Nat.lt_succ_self _) (by first | with_reducible assumption | omega) (chD_0 _ _) (Nat.zero_le _) (fun j hj => ht0 j (by first | with_reducible assumption | omega)) (fun j hj => hm0 j (by first | with_reducible assumption | omega)) (chI_0 _ _ _ _) (by first | with_reducible assumption | omega) hP hD hS (lv_sub hl [0, 1] rfl)
      · have c_1 : ((q : Nat) : Int) < ((ft : Nat) : Int) := zc_nle (nI_toInt b9_3) (nI_toInt b9_2) c_1
        refine lv_aload_n hx hb dX11_choose_15 rfl (lv_at hl 1 rfl) ?_
        refine va_get (D := (dC, dI)) (ci := 9) (v := .ref (a 50)) (C := RX11) (T := TX11) (N := 55) hx hb hts inX11 hown hK hP 0 rfl rfl 50 (Nat.le_of_ble_eq_true rfl) (hts _ mw_1209) (fun _ h9 => h9) rfl dX11_choose_16 ?_
        refine lv_iload_n hx hb dX11_choose_19 rfl (lv_at hl 0 rfl) ?_
        refine lv_iconst (v := 0) hx hb dX11_choose_20 rfl ?_
        have b9_25 : q < 201 := by omega
        refine z_zast hx hb hK hP hD hS 9 1 rfl rfl (e := q) (x := 0) rfl b9_25 (Nat.le_of_ble_eq_true rfl) (by decide) dX11_choose_21 (fun H locs hP hD hS => ?_)
        obtain ⟨hP, hD⟩ := zre (W2 := [_, _, _, _, _, _, _, _, _, (oa (a 50) cZ 201 (upd mk0 q 0)), _, _, _, _]) hP hD rfl
        refine lv_aload_n hx hb dX11_choose_22 rfl (lv_at hl 1 rfl) ?_
        refine va_get (D := (dC, dI)) (ci := 9) (v := .ref (a 37)) (C := RX11) (T := TX11) (N := 55) hx hb hts inX11 hown hK hP 0 rfl rfl 37 (Nat.le_of_ble_eq_true rfl) (hts _ mw_1196) (fun _ h9 => h9) rfl dX11_choose_23 ?_
        refine lv_iload_n hx hb dX11_choose_26 rfl (lv_at hl 0 rfl) ?_
        refine lv_aload_n hx hb dX11_choose_27 rfl (lv_at hl 1 rfl) ?_
        refine lv_iload_n hx hb dX11_choose_28 rfl (lv_at hl 0 rfl) ?_
        obtain ⟨hPc, hDc, hFc, hI1⟩ := zi_sub (wc := [_, _, _, _]) hP hD hS hA [0, 1, 2, 3] (by decide +kernel) rfl
        refine zcall (st1 := [.int (pI (lvF ft st tn q ∧ (kd q).toInt = 3)), .int (nI q), .ref (a 37)]) (va_runV (As := [.int (nI q)]) (rest := [.int (nI q), .ref (a 37)]) ⟨hx, hb, hml, hown, hts⟩ (k_M_isRoad l dC dI cI cZ cF H.size k0 a (upd I0 54 0) J0 q ft st tn kd (by first | with_reducible assumption | assumption) (by first | with_reducible assumption | omega) (by first | with_reducible assumption | omega)) (csV_229 hts rfl rfl ⟨Nat.le_of_ble_eq_true rfl, Nat.le_of_ble_eq_true rfl⟩) (zPV2 (q0 := 0) (ci := 9) hPc hDc hK hXN rfl rfl) rfl rfl hl.1 rfl (lv_room (Nat.le_of_ble_eq_true rfl)) dX11_choose_29 ⟨Nat.le_of_ble_eq_true rfl, Nat.le_of_ble_eq_true rfl⟩) hS hFc hFc rfl (fun t H locs ht hB hk1 hS => ?_)
        obtain ⟨hP1, hD1⟩ := hB
        rw [ht] at hP1
        replace hP := z0 hP hD hk1 hP1 hI1
        clear hk1 hPc hDc hFc hP1 hD1 ht hI1
        have hj_26 : W p l e ({ frames := 3, cells := 0, slots := 0, locals := 70 } : Room) s m ([.ref k0] : List Value).toArray below meth c H locs 0 0 Q9 (F0 m 40 ls [.int (pI (¬ (rdF ft st tn kd) q)), .int (nI q), .ref (a 37)]) := by
          refine z_zast hx hb hK hP hD hS 10 1 rfl rfl (e := q) (x := pI (¬ (rdF ft st tn kd) q)) rfl b9_25 (Nat.le_of_ble_eq_true rfl) (zp_and _) dX11_choose_40 (fun H locs hP hD hS => ?_)
          obtain ⟨hP, hD⟩ := zre (W2 := [_, _, _, _, _, _, _, _, _, _, (oa (a 37) cZ 201 (upd mt0 q (pI (¬ (rdF ft st tn kd) q)))), _, _, _]) hP hD rfl
          refine lv_iinc (v := nI (q + 1)) (lv' := [(1, .int (nI (q + 1))), (0, .ref k0)]) hx hb dX11_choose_41 hl (k := 0) rfl (nI_add q 1) (Nat.le_of_ble_eq_true rfl) rfl (fun ls hl => ?_)
          refine lv_goto (tgt := 7) hx hb dX11_choose_44 rfl ?_
          exact ih_7 (q + 1) (upd mk0 q 0) (upd mt0 q (pI (¬ (rdF ft st tn kd) q))) H locs ls (by first | with_reducible assumption | omega) (by first | with_reducible assumption | omega) (by intro j hj; rcases Nat.lt_or_ge j q with h | h; (rw [show upd mk0 q 0 j = mk0 j from if_neg (by first | with_reducible assumption | omega)]; exact hm0 j h); (rw [show j = q by omega, up_at]; exact (zp_f (fun h => h.1)).symm)) (by intro j hj; rcases Nat.lt_or_ge j q with h | h; (rw [show upd mt0 q _ j = mt0 j from if_neg (by first | with_reducible assumption | omega)]; exact ht0 j h); (rw [show j = q by omega, up_at]; exact zp_iff ⟨Or.inl, fun h => h.resolve_right id⟩)) hP hD hS (lv_sub hl [0, 1] rfl)
        refine lv_if_ne (tgt := 39) hx hb dX11_choose_32 rfl (fun c_27 => ?_) (fun c_27 => ?_)
        · have c_27 : lvF ft st tn q ∧ (kd q).toInt = 3 := zp_1 c_27
          refine lv_iconst (v := 0) hx hb dX11_choose_39 rfl ?_
          refine zz_i (v := pI (¬ (rdF ft st tn kd) q)) (by first | exact (zp_t (by first | with_reducible assumption | assumption)).symm | exact (zp_f (fun h => h (by first | with_reducible assumption | assumption))).symm) ?_
          exact hj_26 
        · have c_27 : ¬ (lvF ft st tn q ∧ (kd q).toInt = 3) := zp_0 c_27
          refine lv_iconst (v := 1) hx hb dX11_choose_35 rfl ?_
          refine lv_goto (tgt := 40) hx hb dX11_choose_36 rfl ?_
          refine zz_i (v := pI (¬ (rdF ft st tn kd) q)) (by first | exact (zp_t (by first | with_reducible assumption | assumption)).symm | exact (zp_f (fun h => h (by first | with_reducible assumption | assumption))).symm) ?_
          exact hj_26 
  exact hl_7 _ 0 mk mt H locs ls (Nat.lt_succ_self _) (by first | with_reducible assumption | omega) (by intro j hj; omega) (by intro j hj; omega) hP hD hS (lv_sub hl [0, 1] rfl)
set_option maxHeartbeats 4000000 in
set_option maxRecDepth 100000 in
theorem k_M_choose_y (l : Launch) (dC : Nat → ClassId) (dI : Nat → Nat → Nat) (cI cZ cF : ClassId) (sz : Nat) (k0 : Nat) (a : Nat → Nat) (I0 : Nat → Int32) (J0 : Nat → Int64) (ft : Nat) (dn : Nat) (bs : Nat) (w0 : Nat) (cp : Nat) (c1 : Nat) (c2 : Nat) (ln : Nat) (cl : Nat) (kd : Nat → Int32) (st : Nat → Int32) (gb : Nat → Int32) (it : Nat → Int32) (pa : Nat → Int32) (pb : Nat → Int32) (rk : Nat → Int32) (wd : Nat → Int32) (tw : Nat → Int32) (tn : Nat → Int32) (mn : Nat → Int32) (cx : Nat → Int32) (cy : Nat → Int32) (sa : Nat → Int32) (sh : Nat → Int32) (wh : Nat → Int32) (of9 : Nat → Int32) (we : Nat → Int32) (la : Nat → Int32) (lb : Nat → Int32) (lc : Nat → Int32) (ld : Nat → Int32) (S0 : Nat → Int32) (mk : Nat → Int32) (mt : Nat → Int32) (jx : Nat → Int32) (jy : Nat → Int32) (gr : Nat → Int32) (hft : I0 0 = nI ft) (h200 : ft ≤ 200) (hwf : ∀ q, lvF ft st tn q → wfM mn cx cy q) (hrk : ∀ q, lvF ft st tn q → 0 ≤ (rk q).toInt ∧ (rk q).toInt ≤ 9) (hz : 0 < cntP (chM (rdF ft st tn kd) (chW rk mn cx cy) (chB cx cy) (chL mn cx cy)) ft) (hdn : I0 19 = nI dn) (hbs : I0 21 = nI bs) (hbd : bs ≤ dn) (hd512 : dn ≤ 512) (hlc : ln ≤ 64 * cl) (hcl1 : 1 ≤ cl) (hclm : cl ≤ 1000000) (hi5_1 : (dn - bs) < 515) (hsa_1 : sa (dn - bs) = nI w0) (hmn_1 : ∀ v9, v9 < ft → (tn v9).toInt = 0 → ¬ (st v9).toInt = 0 → mn v9 = nI (nN (mn v9)) ∧ nN (mn v9) ≤ 40) (hc1_1 : 1 ≤ cp) (hpw_1 : pw cp c1) (hw0_1 : w0 ≤ 4096 * cp) (hfit_1 : psN (nnF st tn mn) w0 ft ≤ 4096 * c1) (hmin_1 : c1 = cp ∨ 2048 * c1 < psN (nnF st tn mn) w0 ft) (hcE_1 : c1 ≤ 512) (hpw_2 : pw c1 c2) (hfit_2 : psN (nnF (gnA (chM (rdF ft st tn kd) (chW rk mn cx cy) (chB cx cy) (chL mn cx cy)) ft 2 st) tn mn) (psN (nnF st tn mn) w0 ft) ft ≤ 4096 * c2) (hmin_2 : c2 = c1 ∨ 2048 * c2 < psN (nnF (gnA (chM (rdF ft st tn kd) (chW rk mn cx cy) (chB cx cy) (chL mn cx cy)) ft 2 st) tn mn) (psN (nnF st tn mn) w0 ft) ft) (hcE_2 : c2 ≤ 512) : zM l yX11_choose cX11_choose 7 (some .int) ({ frames := 4, cells := c2 - cp, slots := 8192 * (c2 - cp), locals := 93 } : Room) [.ref k0] (dC, dI) (zTy cI cZ cF) [(om k0 a (upd I0 26 (nI ln)) J0), (oa (a 1) cI 201 kd), (oa (a 5) cI 201 st), (oa (a 7) cI 201 gb), (oa (a 10) cI 201 it), (oa (a 8) cI 201 pa), (oa (a 9) cI 201 pb), (oa (a 2) cI 201 rk), (oa (a 3) cI 201 wd), (oa (a 4) cI 201 tw), (oa (a 6) cZ 201 tn), (oa (a 11) cI 201 mn), (oa (a 12) cI 8040 cx), (oa (a 13) cI 8040 cy), (oa (a 27) cI 516 sa), (oa (a 28) cI (4096 * cp) sh), (oa (a 16) cI 514 wh), (oa (a 17) cI 514 of9), (oa (a 18) cI 514 we), (oa (a 22) cI (64 * cl) la), (oa (a 23) cI (64 * cl) lb), (oa (a 24) cI (64 * cl) lc), (oa (a 25) cI (64 * cl) ld), (oa (a 32) cI 8 S0), (oa (a 50) cZ 201 mk), (oa (a 37) cZ 201 mt), (oa (a 51) cI 402 jx), (oa (a 52) cI 402 jy), (oa (a 53) cI 402 gr)] sz (some (.int (nI (cntP (chM (rdF ft st tn kd) (chW rk mn cx cy) (chB cx cy) (chL mn cx cy)) ft)))) (fun A t => ∃ (b2 : Nat), ∃ (sh2 : Nat → Int32), ∃ (t9 : Nat), ∃ (la1 : Nat → Int32), ∃ (lb1 : Nat → Int32), ∃ (lc1 : Nat → Int32), ∃ (ld1 : Nat → Int32), ∃ (pc9 : Nat), ∃ (S1 : Nat → Int32), ∃ (mk1 : Nat → Int32), ∃ (mt1 : Nat → Int32), ∃ (jx1 : Nat → Int32), ∃ (jy1 : Nat → Int32), ∃ (gr1 : Nat → Int32), (sh2 w0 = nI ft) ∧ (∀ j, j < w0 → sh2 j = sh j) ∧ (∀ g, g < ft → ∀ j, j < 10 + 2 * (nnF st tn mn) g → sh2 (psN (nnF st tn mn) w0 g + j) = (shD kd st gb it pa pb rk wd tw (nnF st tn mn) cx cy) g j) ∧ (sh2 (psN (nnF st tn mn) w0 ft) = nI ft) ∧ (∀ g, g < ft → ∀ j, j < 10 + 2 * (nnF (gnA (chM (rdF ft st tn kd) (chW rk mn cx cy) (chB cx cy) (chL mn cx cy)) ft 2 st) tn mn) g → sh2 (psN (nnF (gnA (chM (rdF ft st tn kd) (chW rk mn cx cy) (chB cx cy) (chL mn cx cy)) ft 2 st) tn mn) (psN (nnF st tn mn) w0 ft) g + j) = (shD kd (gnA (chM (rdF ft st tn kd) (chW rk mn cx cy) (chB cx cy) (chL mn cx cy)) ft 2 st) (gnA (chM (rdF ft st tn kd) (chW rk mn cx cy) (chB cx cy) (chL mn cx cy)) ft (nI (dn + 1)) gb) (gnA (chM (rdF ft st tn kd) (chW rk mn cx cy) (chB cx cy) (chL mn cx cy)) ft (-1 : Int32) it) pa pb rk wd tw (nnF (gnA (chM (rdF ft st tn kd) (chW rk mn cx cy) (chB cx cy) (chL mn cx cy)) ft 2 st) tn mn) cx cy) g j) ∧ (t9 ≤ ln) ∧ (∀ j, j < t9 → ∃ i, i < ln ∧ lb1 j = lb i ∧ lc1 j = lc i) ∧ zPD (dC, dI) classes A [(om k0 (va_up a 28 b2) (upd (upd (upd (upd (upd (upd I0 14 0) 19 (nI (dn + 1))) 20 0) 26 (nI t9)) 41 (nI (psN (nnF (gnA (chM (rdF ft st tn kd) (chW rk mn cx cy) (chB cx cy) (chL mn cx cy)) ft 2 st) tn mn) (psN (nnF st tn mn) w0 ft) ft))) 54 (nI pc9)) J0), (oa (a 1) cI 201 kd), (oa (a 5) cI 201 (gnA (chM (rdF ft st tn kd) (chW rk mn cx cy) (chB cx cy) (chL mn cx cy)) ft 2 st)), (oa (a 7) cI 201 (gnA (chM (rdF ft st tn kd) (chW rk mn cx cy) (chB cx cy) (chL mn cx cy)) ft (nI (dn + 1)) gb)), (oa (a 10) cI 201 (gnA (chM (rdF ft st tn kd) (chW rk mn cx cy) (chB cx cy) (chL mn cx cy)) ft (-1 : Int32) it)), (oa (a 8) cI 201 pa), (oa (a 9) cI 201 pb), (oa (a 2) cI 201 rk), (oa (a 3) cI 201 wd), (oa (a 4) cI 201 tw), (oa (a 6) cZ 201 tn), (oa (a 11) cI 201 mn), (oa (a 12) cI 8040 cx), (oa (a 13) cI 8040 cy), (oa (a 27) cI 516 (upd (upd sa (dn - bs + 1) (nI (psN (nnF st tn mn) w0 ft))) (dn + 1 - bs + 1) (nI (psN (nnF (gnA (chM (rdF ft st tn kd) (chW rk mn cx cy) (chB cx cy) (chL mn cx cy)) ft 2 st) tn mn) (psN (nnF st tn mn) w0 ft) ft)))), (oa b2 cI (4096 * c2) sh2), (oa (a 16) cI 514 (upd wh (dn + 1) (9 : Int32))), (oa (a 17) cI 514 (upd of9 (dn + 1) (-1 : Int32))), (oa (a 18) cI 514 (upd we (dn + 1) (nI (cntP (chM (rdF ft st tn kd) (chW rk mn cx cy) (chB cx cy) (chL mn cx cy)) ft)))), (oa (a 22) cI (64 * cl) la1), (oa (a 23) cI (64 * cl) lb1), (oa (a 24) cI (64 * cl) lc1), (oa (a 25) cI (64 * cl) ld1), (oa (a 32) cI 8 S1), (oa (a 50) cZ 201 mk1), (oa (a 37) cZ 201 mt1), (oa (a 51) cI 402 jx1), (oa (a 52) cI 402 jy1), (oa (a 53) cI 402 gr1)] t.heap) (c2 - cp) (8192 * (c2 - cp)) := by
  refine zIn (own := "ScaleShopModel") (loc := [(0, .ref k0)]) rfl rfl rfl rfl (fun p e s m below meth c hx hb hr hts hown hlocks hml hnm9 A hA hS hP hD hK hXN Q9 hQ9 ls hl => ?_)
  have hq1 := pw_le hpw_1
  have hq2 := pw_le hpw_2
  refine lv_aload_n hx hb dX11_choose_0 rfl (lv_at hl 0 rfl) ?_
  refine lv_iconst (v := 0) hx hb dX11_choose_1 rfl ?_
  refine va_put (D := (dC, dI)) (ci := 9) (v := .int 0) (ty := .int) (C := RX11) (T := TX11) (N := 55) hx hb hts inX11 tyX11 tyX11_ok nmX11 hown hK hP hD hS 0 rfl rfl 54 (by decide) (hts _ mw_1213) (fun _ h9 => h9) rfl (by decide +kernel) rfl rfl (Nat.le_of_ble_eq_true rfl) dX11_choose_2 (fun H locs hP hD hS => ?_)
  obtain ⟨hP, hD⟩ := zre (W2 := [(om k0 a (upd (upd I0 26 (nI ln)) 54 0) J0), _, _, _, _, _, _, _, _, _, _, _, _, _, _, _, _, _, _, _, _, _, _, _, _, _, _, _, _]) hP hD rfl
  refine lv_iconst (v := 0) hx hb dX11_choose_5 rfl ?_
  refine lv_istore_n (lv' := [(1, .int 0), (0, .ref k0)]) hx hb dX11_choose_6 rfl hl (Nat.le_of_ble_eq_true rfl) rfl (fun ls hl => ?_)
  have hl_7 : ∀ (n9 : Nat) (q : Nat) (mk0 : Nat → Int32) (mt0 : Nat → Int32) (H : Heap) (locs : List Loc) (ls : Array Slot), ft - q < n9 → (q ≤ ft) → (∀ j, j < q → mk0 j = pI (False ∧ (chM (rdF ft st tn kd) (chW rk mn cx cy) (chB cx cy) (chL mn cx cy)) j)) → (∀ j, j < q → mt0 j = pI (¬ (rdF ft st tn kd) j ∨ False)) → va_P (dC, dI) classes [(om k0 a (upd (upd I0 26 (nI ln)) 54 0) J0), (oa (a 1) cI 201 kd), (oa (a 5) cI 201 st), (oa (a 7) cI 201 gb), (oa (a 10) cI 201 it), (oa (a 8) cI 201 pa), (oa (a 9) cI 201 pb), (oa (a 2) cI 201 rk), (oa (a 3) cI 201 wd), (oa (a 4) cI 201 tw), (oa (a 6) cZ 201 tn), (oa (a 11) cI 201 mn), (oa (a 12) cI 8040 cx), (oa (a 13) cI 8040 cy), (oa (a 27) cI 516 sa), (oa (a 28) cI (4096 * cp) sh), (oa (a 16) cI 514 wh), (oa (a 17) cI 514 of9), (oa (a 18) cI 514 we), (oa (a 22) cI (64 * cl) la), (oa (a 23) cI (64 * cl) lb), (oa (a 24) cI (64 * cl) lc), (oa (a 25) cI (64 * cl) ld), (oa (a 32) cI 8 S0), (oa (a 50) cZ 201 mk0), (oa (a 37) cZ 201 mt0), (oa (a 51) cI 402 jx), (oa (a 52) cI 402 jy), (oa (a 53) cI 402 gr)] H → va_D A [(om k0 a (upd (upd I0 26 (nI ln)) 54 0) J0), (oa (a 1) cI 201 kd), (oa (a 5) cI 201 st), (oa (a 7) cI 201 gb), (oa (a 10) cI 201 it), (oa (a 8) cI 201 pa), (oa (a 9) cI 201 pb), (oa (a 2) cI 201 rk), (oa (a 3) cI 201 wd), (oa (a 4) cI 201 tw), (oa (a 6) cZ 201 tn), (oa (a 11) cI 201 mn), (oa (a 12) cI 8040 cx), (oa (a 13) cI 8040 cy), (oa (a 27) cI 516 sa), (oa (a 28) cI (4096 * cp) sh), (oa (a 16) cI 514 wh), (oa (a 17) cI 514 of9), (oa (a 18) cI 514 we), (oa (a 22) cI (64 * cl) la), (oa (a 23) cI (64 * cl) lb), (oa (a 24) cI (64 * cl) lc), (oa (a 25) cI (64 * cl) ld), (oa (a 32) cI 8 S0), (oa (a 50) cZ 201 mk0), (oa (a 37) cZ 201 mt0), (oa (a 51) cI 402 jx), (oa (a 52) cI 402 jy), (oa (a 53) cI 402 gr)] → va_S A s.heap H locs → lv_has ls 7 [(1, .int (nI q)), (0, .ref k0)] → W p l e ({ frames := 4, cells := c2 - cp, slots := 8192 * (c2 - cp), locals := 93 } : Room) s m ([.ref k0] : List Value).toArray below meth c H locs 0 0 Q9 (F0 m 7 ls []) := by
    intro n9
    induction n9 with
    | zero => intro q mk0 mt0 H locs ls hm; exact absurd hm (Nat.not_lt_zero _)
    | succ n9 ih_7 =>
      intro q mk0 mt0 H locs ls hm hq hm0 ht0 hP hD hS hl
      refine lv_iload_n hx hb dX11_choose_7 rfl (lv_at hl 0 rfl) ?_
      refine lv_aload_n hx hb dX11_choose_8 rfl (lv_at hl 1 rfl) ?_
      refine va_get (D := (dC, dI)) (ci := 9) (v := .int (I0 0)) (C := RX11) (T := TX11) (N := 55) hx hb hts inX11 hown hK hP 0 rfl rfl 0 (Nat.le_of_ble_eq_true rfl) (hts _ mw_1159) (fun _ h9 => h9) rfl dX11_choose_9 ?_
      refine zz_i (v := nI ft) (hft) ?_
      have b9_2 : zlt (q) := show q < 2147483648 by omega
      have b9_3 : zlt (ft) := show ft < 2147483648 by omega
      refine lv_icmp_ge (tgt := 47) hx hb dX11_choose_12 rfl (fun c_1 => ?_) (fun c_1 => ?_)
      · have c_1 : ((ft : Nat) : Int) ≤ ((q : Nat) : Int) := zc_le (nI_toInt b9_3) (nI_toInt b9_2) c_1
        refine lv_iconst (v := 0) hx hb dX11_choose_47 rfl ?_
        refine lv_istore_n (lv' := [(1, .int 0), (0, .ref k0)]) hx hb dX11_choose_48 rfl hl (Nat.le_of_ble_eq_true rfl) rfl (fun ls hl => ?_)
        have hl_49 : ∀ (n9 : Nat) (r9 : Nat) (pcn : Nat) (D : Nat → Prop) (mt1 : Nat → Int32) (mk1 : Nat → Int32) (jx1 : Nat → Int32) (jy1 : Nat → Int32) (gr1 : Nat → Int32) (S1 : Nat → Int32) (H : Heap) (locs : List Loc) (ls : Array Slot), ft - r9 < n9 → (r9 ≤ ft) → (chD (rdF ft st tn kd) (chW rk mn cx cy) D) → (r9 ≤ cntP D ft) → (∀ j, j < ft → mt1 j = pI (¬ (rdF ft st tn kd) j ∨ D j)) → (∀ j, j < ft → mk1 j = pI (D j ∧ (chM (rdF ft st tn kd) (chW rk mn cx cy) (chB cx cy) (chL mn cx cy)) j)) → (chI D (chB cx cy) (chL mn cx cy) (fun i => (jx1 i, jy1 i)) gr1 pcn) → (pcn ≤ 2 * r9) → va_P (dC, dI) classes [(om k0 a (upd (upd I0 26 (nI ln)) 54 (nI pcn)) J0), (oa (a 1) cI 201 kd), (oa (a 5) cI 201 st), (oa (a 7) cI 201 gb), (oa (a 10) cI 201 it), (oa (a 8) cI 201 pa), (oa (a 9) cI 201 pb), (oa (a 2) cI 201 rk), (oa (a 3) cI 201 wd), (oa (a 4) cI 201 tw), (oa (a 6) cZ 201 tn), (oa (a 11) cI 201 mn), (oa (a 12) cI 8040 cx), (oa (a 13) cI 8040 cy), (oa (a 27) cI 516 sa), (oa (a 28) cI (4096 * cp) sh), (oa (a 16) cI 514 wh), (oa (a 17) cI 514 of9), (oa (a 18) cI 514 we), (oa (a 22) cI (64 * cl) la), (oa (a 23) cI (64 * cl) lb), (oa (a 24) cI (64 * cl) lc), (oa (a 25) cI (64 * cl) ld), (oa (a 32) cI 8 S1), (oa (a 50) cZ 201 mk1), (oa (a 37) cZ 201 mt1), (oa (a 51) cI 402 jx1), (oa (a 52) cI 402 jy1), (oa (a 53) cI 402 gr1)] H → va_D A [(om k0 a (upd (upd I0 26 (nI ln)) 54 (nI pcn)) J0), (oa (a 1) cI 201 kd), (oa (a 5) cI 201 st), (oa (a 7) cI 201 gb), (oa (a 10) cI 201 it), (oa (a 8) cI 201 pa), (oa (a 9) cI 201 pb), (oa (a 2) cI 201 rk), (oa (a 3) cI 201 wd), (oa (a 4) cI 201 tw), (oa (a 6) cZ 201 tn), (oa (a 11) cI 201 mn), (oa (a 12) cI 8040 cx), (oa (a 13) cI 8040 cy), (oa (a 27) cI 516 sa), (oa (a 28) cI (4096 * cp) sh), (oa (a 16) cI 514 wh), (oa (a 17) cI 514 of9), (oa (a 18) cI 514 we), (oa (a 22) cI (64 * cl) la), (oa (a 23) cI (64 * cl) lb), (oa (a 24) cI (64 * cl) lc), (oa (a 25) cI (64 * cl) ld), (oa (a 32) cI 8 S1), (oa (a 50) cZ 201 mk1), (oa (a 37) cZ 201 mt1), (oa (a 51) cI 402 jx1), (oa (a 52) cI 402 jy1), (oa (a 53) cI 402 gr1)] → va_S A s.heap H locs → lv_has ls 7 [(1, .int (nI r9)), (0, .ref k0)] → W p l e ({ frames := 4, cells := c2 - cp, slots := 8192 * (c2 - cp), locals := 93 } : Room) s m ([.ref k0] : List Value).toArray below meth c H locs 0 0 Q9 (F0 m 49 ls []) := by
          intro n9
          induction n9 with
          | zero => intro r9 pcn D mt1 mk1 jx1 jy1 gr1 S1 H locs ls hm; exact absurd hm (Nat.not_lt_zero _)
          | succ n9 ih_49 =>
            intro r9 pcn D mt1 mk1 jx1 jy1 gr1 S1 H locs ls hm hr9 hDD hDc hmt hmk hcI hpn hP hD hS hl
            refine lv_iload_n hx hb dX11_choose_49 rfl (lv_at hl 0 rfl) ?_
            refine lv_aload_n hx hb dX11_choose_50 rfl (lv_at hl 1 rfl) ?_
            refine va_get (D := (dC, dI)) (ci := 9) (v := .int (I0 0)) (C := RX11) (T := TX11) (N := 55) hx hb hts inX11 hown hK hP 0 rfl rfl 0 (Nat.le_of_ble_eq_true rfl) (hts _ mw_1159) (fun _ h9 => h9) rfl dX11_choose_51 ?_
            refine zz_i (v := nI ft) (hft) ?_
            have b9_5 : zlt (r9) := show r9 < 2147483648 by omega
            refine lv_icmp_ge (tgt := 259) hx hb dX11_choose_54 rfl (fun c_4 => ?_) (fun c_4 => ?_)
            · have c_4 : ((ft : Nat) : Int) ≤ ((r9 : Nat) : Int) := zc_le (nI_toInt b9_3) (nI_toInt b9_5) c_4
              have hall : ∀ j, j < ft → (rdF ft st tn kd) j → D j := (by first | exact (fun j hj _ => cntP_all (by omega) j hj) | exact fun j hj hR => (bst_no hat (by omega) (by omega) j (by omega)).resolve_left (fun h => h hR))
              have hmkF : ∀ j, j < ft → mk1 j = pI ((chM (rdF ft st tn kd) (chW rk mn cx cy) (chB cx cy) (chL mn cx cy)) j) := fun j hj => (by rw [hmk j hj]; exact zp_iff ⟨fun h => h.2, fun h => ⟨hall j hj h.1, h⟩⟩)
              refine lv_aload_n hx hb dX11_choose_259 rfl (lv_at hl 1 rfl) ?_
              refine lv_bipush (v := 9) hx hb dX11_choose_260 rfl ?_
              obtain ⟨hPc, hDc, hFc⟩ := zo_sub (wc := [_, _, _, _, _, _, _, _, _, _, _, _, _, _, _, _, _, _, _, _, _, _, _, _]) hP hD hS hA [0, 1, 2, 3, 4, 5, 6, 7, 8, 9, 10, 11, 12, 13, 14, 15, 16, 17, 18, 19, 20, 21, 22, 24] (by decide +kernel) rfl
              refine zcall (st1 := [.int (nI (cntP (chM (rdF ft st tn kd) (chW rk mn cx cy) (chB cx cy) (chL mn cx cy)) ft))]) (va_runV (As := [.int 9]) (rest := []) ⟨hx, hb, hml, hown, hts⟩ (k_M_dropMarked_y l dC dI cI cZ cF H.size k0 a (upd (upd I0 26 (nI ln)) 54 (nI pcn)) J0 9 ft dn bs w0 cp c1 c2 ln cl kd st gb it pa pb rk wd tw tn mn cx cy sa sh wh of9 we la lb lc ld mk1 (chM (rdF ft st tn kd) (chW rk mn cx cy) (chB cx cy) (chL mn cx cy)) (hft) (by first | with_reducible assumption | omega) (hmkF) (fun j hj h => h.1.1.2.1) (hz) (hdn) (hbs) (by first | with_reducible assumption | omega) (by first | with_reducible assumption | omega) (hlc) (hcl1) (hclm) (hi5_1) (hsa_1) (hmn_1) (hc1_1) (hpw_1) (hw0_1) (hfit_1) (hmin_1) (hcE_1) (hpw_2) (hfit_2) (hmin_2) (hcE_2)) (csV_219 hts rfl rfl ⟨Nat.le_of_ble_eq_true rfl, Nat.le_of_ble_eq_true rfl⟩) (zPV2 (q0 := 0) (ci := 9) hPc hDc hK hXN rfl rfl) rfl rfl hl.1 rfl (lv_room (Nat.le_of_ble_eq_true rfl)) dX11_choose_262 ⟨show (0 + (c2 - cp)) ≤ c2 - cp by omega, show (0 + (8192 * (c2 - cp))) ≤ 8192 * (c2 - cp) by omega⟩) hS hFc hFc rfl (fun t H locs ht hB hk1 hS => ?_)
              refine ex7 hB (fun b2 sh2 t9 la1 lb1 lc1 ld1 hB0 => ?_)
              clear hB
              obtain ⟨p0, p1, p2, p3, p4, p5, p6, hP1, hD1⟩ := hB0
              rw [ht] at hP1
              obtain ⟨hP, hD⟩ := zn (W2 := [_, _, _, _, _, (om k0 (va_up a 28 b2) (upd (upd (upd (upd (upd (upd I0 14 0) 19 (nI (dn + 1))) 20 0) 26 (nI t9)) 41 (nI (psN (nnF (gnA (chM (rdF ft st tn kd) (chW rk mn cx cy) (chB cx cy) (chL mn cx cy)) ft 2 st) tn mn) (psN (nnF st tn mn) w0 ft) ft))) 54 (nI pcn)) J0), (oa (a 1) cI 201 kd), (oa (a 5) cI 201 (gnA (chM (rdF ft st tn kd) (chW rk mn cx cy) (chB cx cy) (chL mn cx cy)) ft 2 st)), (oa (a 7) cI 201 (gnA (chM (rdF ft st tn kd) (chW rk mn cx cy) (chB cx cy) (chL mn cx cy)) ft (nI (dn + 1)) gb)), (oa (a 10) cI 201 (gnA (chM (rdF ft st tn kd) (chW rk mn cx cy) (chB cx cy) (chL mn cx cy)) ft (-1 : Int32) it)), (oa (a 8) cI 201 pa), (oa (a 9) cI 201 pb), (oa (a 2) cI 201 rk), (oa (a 3) cI 201 wd), (oa (a 4) cI 201 tw), (oa (a 6) cZ 201 tn), (oa (a 11) cI 201 mn), (oa (a 12) cI 8040 cx), (oa (a 13) cI 8040 cy), (oa (a 27) cI 516 (upd (upd sa (dn - bs + 1) (nI (psN (nnF st tn mn) w0 ft))) (dn + 1 - bs + 1) (nI (psN (nnF (gnA (chM (rdF ft st tn kd) (chW rk mn cx cy) (chB cx cy) (chL mn cx cy)) ft 2 st) tn mn) (psN (nnF st tn mn) w0 ft) ft)))), (oa b2 cI (4096 * c2) sh2), (oa (a 16) cI 514 (upd wh (dn + 1) (9 : Int32))), (oa (a 17) cI 514 (upd of9 (dn + 1) (-1 : Int32))), (oa (a 18) cI 514 (upd we (dn + 1) (nI (cntP (chM (rdF ft st tn kd) (chW rk mn cx cy) (chB cx cy) (chL mn cx cy)) ft)))), (oa (a 22) cI (64 * cl) la1), (oa (a 23) cI (64 * cl) lb1), (oa (a 24) cI (64 * cl) lc1), (oa (a 25) cI (64 * cl) ld1), (oa (a 50) cZ 201 mk1)]) hP hD hk1 hFc hP1 hD1 zl_263 zl_264 zl_265 zl_266 (by decide +kernel) rfl rfl rfl rfl rfl
              clear hk1 hPc hDc hFc hP1 hD1 ht
              obtain ⟨hP9, hD9⟩ := zq_sub (wc := [_, _, _, _, _, _, _, _, _, _, _, _, _, _, _, _, _, _, _, _, _, _, _, _, _, _, _, _, _]) hP hD [5, 6, 7, 8, 9, 10, 11, 12, 13, 14, 15, 16, 17, 18, 19, 20, 21, 22, 23, 24, 25, 26, 27, 0, 28, 1, 2, 3, 4] rfl rfl
              refine W.widen (k := c2 - cp) (n := 8192 * (c2 - cp)) (by omega) (by omega) ?_
              rw [hQ9]
              exact W.iret (v := nI (cntP (chM (rdF ft st tn kd) (chW rk mn cx cy) (chB cx cy) (chL mn cx cy)) ft)) hx hb hr (fun t ht hW => ⟨⟨rfl, b2, sh2, t9, la1, lb1, lc1, ld1, pcn, S1, mk1, mt1, jx1, jy1, gr1, (p0), (p1), (p2), (p3), (p4), (p5), (p6), by rw [ht]; exact hP9, hD9⟩, hS.F ht⟩) hS.2.2 dX11_choose_265
            · have c_4 : ((r9 : Nat) : Int) < ((ft : Nat) : Int) := zc_nle (nI_toInt b9_3) (nI_toInt b9_5) c_4
              refine lv_iconst (v := (-1)) hx hb dX11_choose_57 rfl ?_
              refine lv_istore_n (lv' := [(2, .int (-1)), (1, .int (nI r9)), (0, .ref k0)]) hx hb dX11_choose_58 rfl hl (Nat.le_of_ble_eq_true rfl) rfl (fun ls hl => ?_)
              refine lv_iconst (v := 0) hx hb dX11_choose_59 rfl ?_
              refine lv_istore_n (lv' := [(3, .int 0), (2, .int (-1)), (1, .int (nI r9)), (0, .ref k0)]) hx hb dX11_choose_60 rfl hl (Nat.le_of_ble_eq_true rfl) rfl (fun ls hl => ?_)
              have hl_61 : ∀ (n9 : Nat) (q : Nat) (zb : Int32) (S2 : Nat → Int32) (H : Heap) (locs : List Loc) (ls : Array Slot), ft - q < n9 → (q ≤ ft) → (bstS (chW rk mn cx cy) (fun j => ¬ (rdF ft st tn kd) j ∨ D j) q zb) → va_P (dC, dI) classes [(om k0 a (upd (upd I0 26 (nI ln)) 54 (nI pcn)) J0), (oa (a 1) cI 201 kd), (oa (a 5) cI 201 st), (oa (a 7) cI 201 gb), (oa (a 10) cI 201 it), (oa (a 8) cI 201 pa), (oa (a 9) cI 201 pb), (oa (a 2) cI 201 rk), (oa (a 3) cI 201 wd), (oa (a 4) cI 201 tw), (oa (a 6) cZ 201 tn), (oa (a 11) cI 201 mn), (oa (a 12) cI 8040 cx), (oa (a 13) cI 8040 cy), (oa (a 27) cI 516 sa), (oa (a 28) cI (4096 * cp) sh), (oa (a 16) cI 514 wh), (oa (a 17) cI 514 of9), (oa (a 18) cI 514 we), (oa (a 22) cI (64 * cl) la), (oa (a 23) cI (64 * cl) lb), (oa (a 24) cI (64 * cl) lc), (oa (a 25) cI (64 * cl) ld), (oa (a 32) cI 8 S2), (oa (a 50) cZ 201 mk1), (oa (a 37) cZ 201 mt1), (oa (a 51) cI 402 jx1), (oa (a 52) cI 402 jy1), (oa (a 53) cI 402 gr1)] H → va_D A [(om k0 a (upd (upd I0 26 (nI ln)) 54 (nI pcn)) J0), (oa (a 1) cI 201 kd), (oa (a 5) cI 201 st), (oa (a 7) cI 201 gb), (oa (a 10) cI 201 it), (oa (a 8) cI 201 pa), (oa (a 9) cI 201 pb), (oa (a 2) cI 201 rk), (oa (a 3) cI 201 wd), (oa (a 4) cI 201 tw), (oa (a 6) cZ 201 tn), (oa (a 11) cI 201 mn), (oa (a 12) cI 8040 cx), (oa (a 13) cI 8040 cy), (oa (a 27) cI 516 sa), (oa (a 28) cI (4096 * cp) sh), (oa (a 16) cI 514 wh), (oa (a 17) cI 514 of9), (oa (a 18) cI 514 we), (oa (a 22) cI (64 * cl) la), (oa (a 23) cI (64 * cl) lb), (oa (a 24) cI (64 * cl) lc), (oa (a 25) cI (64 * cl) ld), (oa (a 32) cI 8 S2), (oa (a 50) cZ 201 mk1), (oa (a 37) cZ 201 mt1), (oa (a 51) cI 402 jx1), (oa (a 52) cI 402 jy1), (oa (a 53) cI 402 gr1)] → va_S A s.heap H locs → lv_has ls 7 [(3, .int (nI q)), (2, .int zb), (1, .int (nI r9)), (0, .ref k0)] → W p l e ({ frames := 4, cells := c2 - cp, slots := 8192 * (c2 - cp), locals := 93 } : Room) s m ([.ref k0] : List Value).toArray below meth c H locs 0 0 Q9 (F0 m 61 ls []) := by
                intro n9
                induction n9 with
                | zero => intro q zb S2 H locs ls hm; exact absurd hm (Nat.not_lt_zero _)
                | succ n9 ih_61 =>
                  intro q zb S2 H locs ls hm hq hat hP hD hS hl
                  refine lv_iload_n hx hb dX11_choose_61 rfl (lv_at hl 0 rfl) ?_
                  refine lv_aload_n hx hb dX11_choose_62 rfl (lv_at hl 3 rfl) ?_
                  refine va_get (D := (dC, dI)) (ci := 9) (v := .int (I0 0)) (C := RX11) (T := TX11) (N := 55) hx hb hts inX11 hown hK hP 0 rfl rfl 0 (Nat.le_of_ble_eq_true rfl) (hts _ mw_1159) (fun _ h9 => h9) rfl dX11_choose_63 ?_
                  refine zz_i (v := nI ft) (hft) ?_
                  have b9_7 : zlt (q) := show q < 2147483648 by omega
                  refine lv_icmp_ge (tgt := 105) hx hb dX11_choose_66 rfl (fun c_6 => ?_) (fun c_6 => ?_)
                  · have c_6 : ((ft : Nat) : Int) ≤ ((q : Nat) : Int) := zc_le (nI_toInt b9_3) (nI_toInt b9_7) c_6
                    refine lv_iload_n hx hb dX11_choose_105 rfl (lv_at hl 1 rfl) ?_
                    refine lv_iconst (v := (-1)) hx hb dX11_choose_106 rfl ?_
                    refine lv_icmp_ne (tgt := 113) hx hb dX11_choose_107 rfl (fun c_8 => ?_) (fun c_8 => ?_)
                    · have c_8 : ¬ zb.toInt = (-1) := zc_ne rfl rfl c_8
                      have hqf : q = ft := (by omega)
                      rw [hqf] at hat
                      obtain ⟨b9, hz9, hbk, hbF, hbm⟩ := bst_get hat (by omega)
                      have hRq_b9 : (rdF ft st tn kd) b9 := (Classical.byContradiction fun h => hbF (Or.inl h))
                      have hw_b9 := hwf b9 hRq_b9.1
                      have hn_b9 := hw_b9.2.1
                      have hk_b9 := hrk b9 hRq_b9.1
                      have hc_b9 := chW_b hk_b9 hw_b9
                      have hDb : ¬ D b9 := fun h => hbF (Or.inr h)
                      have hds := chD_s hDD (ft := ft) (fun q h => h.1.1) hRq_b9 hDb (fun j hj hR hn => hbm j hj (fun h => h.elim (fun h => h hR) hn))
                      refine lv_aload_n hx hb dX11_choose_113 rfl (lv_at hl 3 rfl) ?_
                      refine va_get (D := (dC, dI)) (ci := 9) (v := .ref (a 37)) (C := RX11) (T := TX11) (N := 55) hx hb hts inX11 hown hK hP 0 rfl rfl 37 (Nat.le_of_ble_eq_true rfl) (hts _ mw_1196) (fun _ h9 => h9) rfl dX11_choose_114 ?_
                      refine lv_iload_n hx hb dX11_choose_117 rfl (lv_at hl 1 rfl) ?_
                      refine zz_i (v := nI b9) (hz9) ?_
                      refine lv_iconst (v := 1) hx hb dX11_choose_118 rfl ?_
                      have b9_9 : b9 < 201 := by omega
                      refine z_zast hx hb hK hP hD hS 25 1 rfl rfl (e := b9) (x := 1) rfl b9_9 (Nat.le_of_ble_eq_true rfl) (by decide) dX11_choose_119 (fun H locs hP hD hS => ?_)
                      obtain ⟨hP, hD⟩ := zre (W2 := [_, _, _, _, _, _, _, _, _, _, _, _, _, _, _, _, _, _, _, _, _, _, _, _, _, (oa (a 37) cZ 201 (upd mt1 b9 1)), _, _, _]) hP hD rfl
                      refine lv_aload_n hx hb dX11_choose_120 rfl (lv_at hl 3 rfl) ?_
                      refine va_get (D := (dC, dI)) (ci := 9) (v := .ref (a 53)) (C := RX11) (T := TX11) (N := 55) hx hb hts inX11 hown hK hP 0 rfl rfl 53 (Nat.le_of_ble_eq_true rfl) (hts _ mw_1212) (fun _ h9 => h9) rfl dX11_choose_121 ?_
                      refine lv_aload_n hx hb dX11_choose_124 rfl (lv_at hl 3 rfl) ?_
                      refine lv_aload_n hx hb dX11_choose_125 rfl (lv_at hl 3 rfl) ?_
                      refine va_get (D := (dC, dI)) (ci := 9) (v := .ref (a 12)) (C := RX11) (T := TX11) (N := 55) hx hb hts inX11 hown hK hP 0 rfl rfl 12 (Nat.le_of_ble_eq_true rfl) (hts _ mw_1171) (fun _ h9 => h9) rfl dX11_choose_126 ?_
                      refine lv_bipush (v := 40) hx hb dX11_choose_129 rfl ?_
                      refine lv_iload_n hx hb dX11_choose_131 rfl (lv_at hl 1 rfl) ?_
                      refine zz_i (v := nI b9) (hz9) ?_
                      refine lv_imul hx hb dX11_choose_132 ?_
                      refine zz_i (v := nI (40 * b9)) (pk_mul 40 b9) ?_
                      have b9_10 : 40 * b9 < 8040 := by omega
                      refine z_iald hx hb hK hP 12 0 rfl rfl (e := 40 * b9) rfl b9_10 (Nat.le_of_ble_eq_true rfl) dX11_choose_133 ?_
                      refine lv_aload_n hx hb dX11_choose_134 rfl (lv_at hl 3 rfl) ?_
                      refine va_get (D := (dC, dI)) (ci := 9) (v := .ref (a 13)) (C := RX11) (T := TX11) (N := 55) hx hb hts inX11 hown hK hP 0 rfl rfl 13 (Nat.le_of_ble_eq_true rfl) (hts _ mw_1172) (fun _ h9 => h9) rfl dX11_choose_135 ?_
                      refine lv_bipush (v := 40) hx hb dX11_choose_138 rfl ?_
                      refine lv_iload_n hx hb dX11_choose_140 rfl (lv_at hl 1 rfl) ?_
                      refine zz_i (v := nI b9) (hz9) ?_
                      refine lv_imul hx hb dX11_choose_141 ?_
                      refine zz_i (v := nI (40 * b9)) (pk_mul 40 b9) ?_
                      refine z_iald hx hb hK hP 13 0 rfl rfl (e := 40 * b9) rfl b9_10 (Nat.le_of_ble_eq_true rfl) dX11_choose_142 ?_
                      obtain ⟨hPc, hDc, hFc⟩ := zo_sub (wc := [_, _, _, _]) hP hD hS hA [0, 26, 27, 28] (by decide +kernel) rfl
                      refine zcalle (va_runV (As := [.int (cx (40 * b9)), .int (cy (40 * b9))]) (rest := [.ref (a 53)]) ⟨hx, hb, hml, hown, hts⟩ (k_M_placeOf_u l dC dI cI cZ cF H.size k0 a (upd (upd I0 26 (nI ln)) 54 (nI pcn)) J0 (cx (40 * b9)) (cy (40 * b9)) pcn jx1 jy1 gr1 (by first | with_reducible assumption | omega)) (csV_227 hts rfl rfl ⟨Nat.le_of_ble_eq_true rfl, Nat.le_of_ble_eq_true rfl⟩) (zPV2 (q0 := 0) (ci := 9) hPc hDc hK hXN rfl rfl) rfl rfl hl.1 rfl (lv_room (Nat.le_of_ble_eq_true rfl)) dX11_choose_143 ⟨Nat.zero_le _, Nat.zero_le _⟩) hS hFc hFc (fun v9 t H locs ht hB hk1 hS => ?_)
                      obtain ⟨pcA, iA, jxA, jyA, grA, rfl, hA1, hA2, hA3, hA4, hP1, hD1⟩ := hB
                      refine W.eq (g2 := F0 m 146 ls [.int (nI iA), .ref (a 53)]) rfl ?_
                      rw [ht] at hP1
                      obtain ⟨hP, hD⟩ := zn (W2 := [(om k0 a (upd (upd I0 26 (nI ln)) 54 (nI pcA)) J0), _, _, _, _, _, _, _, _, _, _, _, _, _, _, _, _, _, _, _, _, _, _, _, _, _, (oa (a 51) cI 402 jxA), (oa (a 52) cI 402 jyA), (oa (a 53) cI 402 grA)]) hP hD hk1 hFc hP1 hD1 [0, 26, 27, 28] zl_99 zl_267 [0, 26, 27, 28] (by decide +kernel) rfl rfl rfl rfl rfl
                      clear hk1 hPc hDc hFc hP1 hD1 ht
                      have b9_11 : iA < 402 := by omega
                      refine z_iald hx hb hK hP 28 0 rfl rfl (e := iA) rfl b9_11 (Nat.le_of_ble_eq_true rfl) dX11_choose_146 ?_
                      refine lv_istore_n (lv' := [(3, .int (grA iA)), (2, .int zb), (1, .int (nI r9)), (0, .ref k0)]) hx hb dX11_choose_147 rfl hl (Nat.le_of_ble_eq_true rfl) rfl (fun ls hl => ?_)
                      refine lv_bipush (v := 40) hx hb dX11_choose_148 rfl ?_
                      refine lv_iload_n hx hb dX11_choose_150 rfl (lv_at hl 1 rfl) ?_
                      refine zz_i (v := nI b9) (hz9) ?_
                      refine lv_imul hx hb dX11_choose_151 ?_
                      refine zz_i (v := nI (40 * b9)) (pk_mul 40 b9) ?_
                      refine lv_aload_n hx hb dX11_choose_152 rfl (lv_at hl 3 rfl) ?_
                      refine va_get (D := (dC, dI)) (ci := 9) (v := .ref (a 11)) (C := RX11) (T := TX11) (N := 55) hx hb hts inX11 hown hK hP 0 rfl rfl 11 (Nat.le_of_ble_eq_true rfl) (hts _ mw_1170) (fun _ h9 => h9) rfl dX11_choose_153 ?_
                      refine lv_iload_n hx hb dX11_choose_156 rfl (lv_at hl 1 rfl) ?_
                      refine zz_i (v := nI b9) (hz9) ?_
                      refine z_iald hx hb hK hP 11 0 rfl rfl (e := b9) rfl b9_9 (Nat.le_of_ble_eq_true rfl) dX11_choose_157 ?_
                      refine zz_i (v := nI (nN (mn b9))) (hw_b9.1) ?_
                      refine lv_iadd hx hb dX11_choose_158 ?_
                      refine zz_i (v := nI (40 * b9 + (nN (mn b9)))) (nI_add (40 * b9) (nN (mn b9))) ?_
                      refine lv_iconst (v := 1) hx hb dX11_choose_159 rfl ?_
                      refine lv_isub hx hb dX11_choose_160 ?_
                      refine zz_i (v := nI ((40 * b9 + (nN (mn b9))) - 1)) (pk_sub (a := 40 * b9 + (nN (mn b9))) (b := 1) (by omega)) ?_
                      refine lv_istore (lv' := [(4, .int (nI ((40 * b9 + (nN (mn b9))) - 1))), (3, .int (grA iA)), (2, .int zb), (1, .int (nI r9)), (0, .ref k0)]) hx hb dX11_choose_161 hl (Nat.le_of_ble_eq_true rfl) rfl (fun ls hl => ?_)
                      refine lv_aload_n hx hb dX11_choose_163 rfl (lv_at hl 4 rfl) ?_
                      refine va_get (D := (dC, dI)) (ci := 9) (v := .ref (a 53)) (C := RX11) (T := TX11) (N := 55) hx hb hts inX11 hown hK hP 0 rfl rfl 53 (Nat.le_of_ble_eq_true rfl) (hts _ mw_1212) (fun _ h9 => h9) rfl dX11_choose_164 ?_
                      refine lv_aload_n hx hb dX11_choose_167 rfl (lv_at hl 4 rfl) ?_
                      refine lv_aload_n hx hb dX11_choose_168 rfl (lv_at hl 4 rfl) ?_
                      refine va_get (D := (dC, dI)) (ci := 9) (v := .ref (a 12)) (C := RX11) (T := TX11) (N := 55) hx hb hts inX11 hown hK hP 0 rfl rfl 12 (Nat.le_of_ble_eq_true rfl) (hts _ mw_1171) (fun _ h9 => h9) rfl dX11_choose_169 ?_
                      refine lv_iload hx hb dX11_choose_172 (lv_at hl 0 rfl) ?_
                      have b9_12 : (40 * b9 + (nN (mn b9))) - 1 < 8040 := by omega
                      refine z_iald hx hb hK hP 12 0 rfl rfl (e := (40 * b9 + (nN (mn b9))) - 1) rfl b9_12 (Nat.le_of_ble_eq_true rfl) dX11_choose_174 ?_
                      refine lv_aload_n hx hb dX11_choose_175 rfl (lv_at hl 4 rfl) ?_
                      refine va_get (D := (dC, dI)) (ci := 9) (v := .ref (a 13)) (C := RX11) (T := TX11) (N := 55) hx hb hts inX11 hown hK hP 0 rfl rfl 13 (Nat.le_of_ble_eq_true rfl) (hts _ mw_1172) (fun _ h9 => h9) rfl dX11_choose_176 ?_
                      refine lv_iload hx hb dX11_choose_179 (lv_at hl 0 rfl) ?_
                      refine z_iald hx hb hK hP 13 0 rfl rfl (e := (40 * b9 + (nN (mn b9))) - 1) rfl b9_12 (Nat.le_of_ble_eq_true rfl) dX11_choose_181 ?_
                      obtain ⟨hPc, hDc, hFc⟩ := zo_sub (wc := [_, _, _, _]) hP hD hS hA [0, 26, 27, 28] (by decide +kernel) rfl
                      refine zcalle (va_runV (As := [.int (cx ((40 * b9 + (nN (mn b9))) - 1)), .int (cy ((40 * b9 + (nN (mn b9))) - 1))]) (rest := [.ref (a 53)]) ⟨hx, hb, hml, hown, hts⟩ (k_M_placeOf_u l dC dI cI cZ cF H.size k0 a (upd (upd I0 26 (nI ln)) 54 (nI pcA)) J0 (cx ((40 * b9 + (nN (mn b9))) - 1)) (cy ((40 * b9 + (nN (mn b9))) - 1)) pcA jxA jyA grA (by first | with_reducible assumption | omega)) (csV_227 hts rfl rfl ⟨Nat.le_of_ble_eq_true rfl, Nat.le_of_ble_eq_true rfl⟩) (zPV2 (q0 := 0) (ci := 9) hPc hDc hK hXN rfl rfl) rfl rfl hl.1 rfl (lv_room (Nat.le_of_ble_eq_true rfl)) dX11_choose_182 ⟨Nat.zero_le _, Nat.zero_le _⟩) hS hFc hFc (fun v9 t H locs ht hB hk1 hS => ?_)
                      obtain ⟨pcB, iB, jxB, jyB, grB, rfl, hB1, hB2, hB3, hB4, hP1, hD1⟩ := hB
                      refine W.eq (g2 := F0 m 185 ls [.int (nI iB), .ref (a 53)]) rfl ?_
                      rw [ht] at hP1
                      obtain ⟨hP, hD⟩ := zn (W2 := [(om k0 a (upd (upd I0 26 (nI ln)) 54 (nI pcB)) J0), _, _, _, _, _, _, _, _, _, _, _, _, _, _, _, _, _, _, _, _, _, _, _, _, _, (oa (a 51) cI 402 jxB), (oa (a 52) cI 402 jyB), (oa (a 53) cI 402 grB)]) hP hD hk1 hFc hP1 hD1 [0, 26, 27, 28] zl_99 zl_267 [0, 26, 27, 28] (by decide +kernel) rfl rfl rfl rfl rfl
                      clear hk1 hPc hDc hFc hP1 hD1 ht
                      have b9_13 : iB < 402 := by omega
                      refine z_iald hx hb hK hP 28 0 rfl rfl (e := iB) rfl b9_13 (Nat.le_of_ble_eq_true rfl) dX11_choose_185 ?_
                      refine lv_istore (lv' := [(5, .int (grB iB)), (4, .int (nI ((40 * b9 + (nN (mn b9))) - 1))), (3, .int (grA iA)), (2, .int zb), (1, .int (nI r9)), (0, .ref k0)]) hx hb dX11_choose_186 hl (Nat.le_of_ble_eq_true rfl) rfl (fun ls hl => ?_)
                      have hcA := chI_ad hcI (by omega) hA2 hA3 hA4
                      have hcB := chI_ad hcA (by omega) hB2 hB3 hB4
                      have hgA : grB iA = grA iA := (hB3 iA hA1.1).2.2
                      have hiA : iA < pcB := (by omega)
                      have eA : (fun i => (jxB i, jyB i)) iA = (chB cx cy) b9 := (by show (jxB iA, jyB iA) = _; rw [(hB3 iA hA1.1).1, (hB3 iA hA1.1).2.1]; exact hA2)
                      have hmq := chQ hRq_b9 hds.2 hcB hiA hB1.1 eA hB2
                      rw [hgA] at hmq
                      refine lv_aload_n hx hb dX11_choose_188 rfl (lv_at hl 5 rfl) ?_
                      refine va_get (D := (dC, dI)) (ci := 9) (v := .ref (a 50)) (C := RX11) (T := TX11) (N := 55) hx hb hts inX11 hown hK hP 0 rfl rfl 50 (Nat.le_of_ble_eq_true rfl) (hts _ mw_1209) (fun _ h9 => h9) rfl dX11_choose_189 ?_
                      refine lv_iload_n hx hb dX11_choose_192 rfl (lv_at hl 3 rfl) ?_
                      refine zz_i (v := nI b9) (hz9) ?_
                      refine lv_iload_n hx hb dX11_choose_193 rfl (lv_at hl 2 rfl) ?_
                      refine lv_iload hx hb dX11_choose_194 (lv_at hl 0 rfl) ?_
                      have hj_14 : W p l e ({ frames := 4, cells := c2 - cp, slots := 8192 * (c2 - cp), locals := 93 } : Room) s m ([.ref k0] : List Value).toArray below meth c H locs 0 0 Q9 (F0 m 204 ls [.int (pI ((chM (rdF ft st tn kd) (chW rk mn cx cy) (chB cx cy) (chL mn cx cy)) b9)), .int (nI b9), .ref (a 50)]) := by
                        refine z_zast hx hb hK hP hD hS 24 1 rfl rfl (e := b9) (x := pI ((chM (rdF ft st tn kd) (chW rk mn cx cy) (chB cx cy) (chL mn cx cy)) b9)) rfl b9_9 (Nat.le_of_ble_eq_true rfl) (zp_and _) dX11_choose_204 (fun H locs hP hD hS => ?_)
                        obtain ⟨hP, hD⟩ := zre (W2 := [_, _, _, _, _, _, _, _, _, _, _, _, _, _, _, _, _, _, _, _, _, _, _, _, (oa (a 50) cZ 201 (upd mk1 b9 (pI ((chM (rdF ft st tn kd) (chW rk mn cx cy) (chB cx cy) (chL mn cx cy)) b9)))), _, _, _, _]) hP hD rfl
                        refine lv_iconst (v := 0) hx hb dX11_choose_205 rfl ?_
                        refine lv_istore (lv' := [(6, .int 0), (5, .int (grB iB)), (4, .int (nI ((40 * b9 + (nN (mn b9))) - 1))), (3, .int (grA iA)), (2, .int zb), (1, .int (nI r9)), (0, .ref k0)]) hx hb dX11_choose_206 hl (Nat.le_of_ble_eq_true rfl) rfl (fun ls hl => ?_)
                        have hl_208 : ∀ (n9 : Nat) (k : Nat) (gr2 : Nat → Int32) (H : Heap) (locs : List Loc) (ls : Array Slot), pcB - k < n9 → (k ≤ pcB) → (∀ j, j < k → gr2 j = if grB j = grB iB then grA iA else grB j) → (∀ j, k ≤ j → gr2 j = grB j) → va_P (dC, dI) classes [(om k0 a (upd (upd I0 26 (nI ln)) 54 (nI pcB)) J0), (oa (a 1) cI 201 kd), (oa (a 5) cI 201 st), (oa (a 7) cI 201 gb), (oa (a 10) cI 201 it), (oa (a 8) cI 201 pa), (oa (a 9) cI 201 pb), (oa (a 2) cI 201 rk), (oa (a 3) cI 201 wd), (oa (a 4) cI 201 tw), (oa (a 6) cZ 201 tn), (oa (a 11) cI 201 mn), (oa (a 12) cI 8040 cx), (oa (a 13) cI 8040 cy), (oa (a 27) cI 516 sa), (oa (a 28) cI (4096 * cp) sh), (oa (a 16) cI 514 wh), (oa (a 17) cI 514 of9), (oa (a 18) cI 514 we), (oa (a 22) cI (64 * cl) la), (oa (a 23) cI (64 * cl) lb), (oa (a 24) cI (64 * cl) lc), (oa (a 25) cI (64 * cl) ld), (oa (a 32) cI 8 S2), (oa (a 50) cZ 201 (upd mk1 b9 (pI ((chM (rdF ft st tn kd) (chW rk mn cx cy) (chB cx cy) (chL mn cx cy)) b9)))), (oa (a 37) cZ 201 (upd mt1 b9 1)), (oa (a 51) cI 402 jxB), (oa (a 52) cI 402 jyB), (oa (a 53) cI 402 gr2)] H → va_D A [(om k0 a (upd (upd I0 26 (nI ln)) 54 (nI pcB)) J0), (oa (a 1) cI 201 kd), (oa (a 5) cI 201 st), (oa (a 7) cI 201 gb), (oa (a 10) cI 201 it), (oa (a 8) cI 201 pa), (oa (a 9) cI 201 pb), (oa (a 2) cI 201 rk), (oa (a 3) cI 201 wd), (oa (a 4) cI 201 tw), (oa (a 6) cZ 201 tn), (oa (a 11) cI 201 mn), (oa (a 12) cI 8040 cx), (oa (a 13) cI 8040 cy), (oa (a 27) cI 516 sa), (oa (a 28) cI (4096 * cp) sh), (oa (a 16) cI 514 wh), (oa (a 17) cI 514 of9), (oa (a 18) cI 514 we), (oa (a 22) cI (64 * cl) la), (oa (a 23) cI (64 * cl) lb), (oa (a 24) cI (64 * cl) lc), (oa (a 25) cI (64 * cl) ld), (oa (a 32) cI 8 S2), (oa (a 50) cZ 201 (upd mk1 b9 (pI ((chM (rdF ft st tn kd) (chW rk mn cx cy) (chB cx cy) (chL mn cx cy)) b9)))), (oa (a 37) cZ 201 (upd mt1 b9 1)), (oa (a 51) cI 402 jxB), (oa (a 52) cI 402 jyB), (oa (a 53) cI 402 gr2)] → va_S A s.heap H locs → lv_has ls 7 [(6, .int (nI k)), (5, .int (grB iB)), (4, .int (nI ((40 * b9 + (nN (mn b9))) - 1))), (3, .int (grA iA)), (2, .int zb), (1, .int (nI r9)), (0, .ref k0)] → W p l e ({ frames := 4, cells := c2 - cp, slots := 8192 * (c2 - cp), locals := 93 } : Room) s m ([.ref k0] : List Value).toArray below meth c H locs 0 0 Q9 (F0 m 208 ls []) := by
                          intro n9
                          induction n9 with
                          | zero => intro k gr2 H locs ls hm; exact absurd hm (Nat.not_lt_zero _)
                          | succ n9 ih_208 =>
                            intro k gr2 H locs ls hm hk9 hg1 hg2 hP hD hS hl
                            refine lv_iload hx hb dX11_choose_208 (lv_at hl 0 rfl) ?_
                            refine lv_aload_n hx hb dX11_choose_210 rfl (lv_at hl 6 rfl) ?_
                            refine va_get (D := (dC, dI)) (ci := 9) (v := .int (nI pcB)) (C := RX11) (T := TX11) (N := 55) hx hb hts inX11 hown hK hP 0 rfl rfl 54 (Nat.le_of_ble_eq_true rfl) (hts _ mw_1213) (fun _ h9 => h9) rfl dX11_choose_211 ?_
                            have b9_16 : zlt (k) := show k < 2147483648 by omega
                            have b9_17 : zlt (pcB) := show pcB < 2147483648 by omega
                            refine lv_icmp_ge (tgt := 253) hx hb dX11_choose_214 rfl (fun c_15 => ?_) (fun c_15 => ?_)
                            · have c_15 : ((pcB : Nat) : Int) ≤ ((k : Nat) : Int) := zc_le (nI_toInt b9_17) (nI_toInt b9_16) c_15
                              refine lv_iinc (v := nI (r9 + 1)) (lv' := [(1, .int (nI (r9 + 1))), (6, .int (nI k)), (5, .int (grB iB)), (4, .int (nI ((40 * b9 + (nN (mn b9))) - 1))), (3, .int (grA iA)), (2, .int zb), (0, .ref k0)]) hx hb dX11_choose_253 hl (k := 5) rfl (nI_add r9 1) (Nat.le_of_ble_eq_true rfl) rfl (fun ls hl => ?_)
                              refine lv_goto (tgt := 49) hx hb dX11_choose_256 rfl ?_
                              exact ih_49 (r9 + 1) pcB (fun j => D j ∨ j = b9) (upd mt1 b9 1) (upd mk1 b9 (pI ((chM (rdF ft st tn kd) (chW rk mn cx cy) (chB cx cy) (chL mn cx cy)) b9))) jxB jyB gr2 S2 H locs ls (by first | with_reducible assumption | omega) (by first | with_reducible assumption | omega) (hds.1) (Nat.lt_of_le_of_lt hDc (cntP_lt (fun j h => Or.inl h) hbk (Or.inr rfl) hDb)) (chT_s hmt) (chK_s hmk) (chI_un hcB hiA hB1.1 eA hB2 (fun k9 h9 => by rw [hgA]; exact hg1 k9 (by first | with_reducible assumption | omega))) (by first | with_reducible assumption | omega) hP hD hS (lv_sub hl [0, 6] rfl)
                            · have c_15 : ((k : Nat) : Int) < ((pcB : Nat) : Int) := zc_nle (nI_toInt b9_17) (nI_toInt b9_16) c_15
                              refine lv_aload_n hx hb dX11_choose_217 rfl (lv_at hl 6 rfl) ?_
                              refine va_get (D := (dC, dI)) (ci := 9) (v := .ref (a 53)) (C := RX11) (T := TX11) (N := 55) hx hb hts inX11 hown hK hP 0 rfl rfl 53 (Nat.le_of_ble_eq_true rfl) (hts _ mw_1212) (fun _ h9 => h9) rfl dX11_choose_218 ?_
                              refine lv_iload hx hb dX11_choose_221 (lv_at hl 0 rfl) ?_
                              refine lv_aload_n hx hb dX11_choose_223 rfl (lv_at hl 6 rfl) ?_
                              refine va_get (D := (dC, dI)) (ci := 9) (v := .ref (a 53)) (C := RX11) (T := TX11) (N := 55) hx hb hts inX11 hown hK hP 0 rfl rfl 53 (Nat.le_of_ble_eq_true rfl) (hts _ mw_1212) (fun _ h9 => h9) rfl dX11_choose_224 ?_
                              refine lv_iload hx hb dX11_choose_227 (lv_at hl 0 rfl) ?_
                              have b9_18 : k < 402 := by omega
                              refine z_iald hx hb hK hP 28 0 rfl rfl (e := k) rfl b9_18 (Nat.le_of_ble_eq_true rfl) dX11_choose_229 ?_
                              refine lv_iload hx hb dX11_choose_230 (lv_at hl 1 rfl) ?_
                              refine lv_icmp_ne (tgt := 239) hx hb dX11_choose_232 rfl (fun c_19 => ?_) (fun c_19 => ?_)
                              · have c_19 : ¬ (gr2 k).toInt = (grB iB).toInt := zc_ne rfl rfl c_19
                                refine lv_aload_n hx hb dX11_choose_239 rfl (lv_at hl 6 rfl) ?_
                                refine va_get (D := (dC, dI)) (ci := 9) (v := .ref (a 53)) (C := RX11) (T := TX11) (N := 55) hx hb hts inX11 hown hK hP 0 rfl rfl 53 (Nat.le_of_ble_eq_true rfl) (hts _ mw_1212) (fun _ h9 => h9) rfl dX11_choose_240 ?_
                                refine lv_iload hx hb dX11_choose_243 (lv_at hl 0 rfl) ?_
                                refine z_iald hx hb hK hP 28 0 rfl rfl (e := k) rfl b9_18 (Nat.le_of_ble_eq_true rfl) dX11_choose_245 ?_
                                refine z_iast hx hb hK hP hD hS 28 0 rfl rfl (e := k) (x := gr2 k) rfl b9_18 (Nat.le_of_ble_eq_true rfl) dX11_choose_246 (fun H locs hP hD hS => ?_)
                                obtain ⟨hP, hD⟩ := zre (W2 := [_, _, _, _, _, _, _, _, _, _, _, _, _, _, _, _, _, _, _, _, _, _, _, _, _, _, _, _, (oa (a 53) cI 402 (upd gr2 k (gr2 k)))]) hP hD rfl
                                refine lv_iinc (v := nI (k + 1)) (lv' := [(6, .int (nI (k + 1))), (5, .int (grB iB)), (4, .int (nI ((40 * b9 + (nN (mn b9))) - 1))), (3, .int (grA iA)), (2, .int zb), (1, .int (nI r9)), (0, .ref k0)]) hx hb dX11_choose_247 hl (k := 0) rfl (nI_add k 1) (Nat.le_of_ble_eq_true rfl) rfl (fun ls hl => ?_)
                                refine lv_goto (tgt := 208) hx hb dX11_choose_250 rfl ?_
                                exact ih_208 (k + 1) (upd gr2 k (gr2 k)) H locs ls (by first | with_reducible assumption | omega) (by first | with_reducible assumption | omega) (chG_s hg1 (hg2 k (Nat.le_refl _)) (by first | exact Or.inl ⟨by omega, rfl⟩ | exact Or.inr ⟨by omega, rfl⟩)) (fun j hj => by rw [show upd gr2 k _ j = gr2 j from if_neg (by first | with_reducible assumption | omega)]; exact hg2 j (by first | with_reducible assumption | omega)) hP hD hS (lv_sub hl [0, 1, 2, 3, 4, 5, 6] rfl)
                              · have c_19 : (gr2 k).toInt = (grB iB).toInt := zc_eq rfl rfl c_19
                                refine lv_iload_n hx hb dX11_choose_235 rfl (lv_at hl 3 rfl) ?_
                                refine lv_goto (tgt := 246) hx hb dX11_choose_236 rfl ?_
                                refine z_iast hx hb hK hP hD hS 28 0 rfl rfl (e := k) (x := grA iA) rfl b9_18 (Nat.le_of_ble_eq_true rfl) dX11_choose_246 (fun H locs hP hD hS => ?_)
                                obtain ⟨hP, hD⟩ := zre (W2 := [_, _, _, _, _, _, _, _, _, _, _, _, _, _, _, _, _, _, _, _, _, _, _, _, _, _, _, _, (oa (a 53) cI 402 (upd gr2 k (grA iA)))]) hP hD rfl
                                refine lv_iinc (v := nI (k + 1)) (lv' := [(6, .int (nI (k + 1))), (5, .int (grB iB)), (4, .int (nI ((40 * b9 + (nN (mn b9))) - 1))), (3, .int (grA iA)), (2, .int zb), (1, .int (nI r9)), (0, .ref k0)]) hx hb dX11_choose_247 hl (k := 0) rfl (nI_add k 1) (Nat.le_of_ble_eq_true rfl) rfl (fun ls hl => ?_)
                                refine lv_goto (tgt := 208) hx hb dX11_choose_250 rfl ?_
                                exact ih_208 (k + 1) (upd gr2 k (grA iA)) H locs ls (by first | with_reducible assumption | omega) (by first | with_reducible assumption | omega) (chG_s hg1 (hg2 k (Nat.le_refl _)) (by first | exact Or.inl ⟨by omega, rfl⟩ | exact Or.inr ⟨by omega, rfl⟩)) (fun j hj => by rw [show upd gr2 k _ j = gr2 j from if_neg (by first | with_reducible assumption | omega)]; exact hg2 j (by first | with_reducible assumption | omega)) hP hD hS (lv_sub hl [0, 1, 2, 3, 4, 5, 6] rfl)
                        exact hl_208 _ 0 grB H locs ls (Nat.lt_succ_self _) (by first | with_reducible assumption | omega) (by intro j hj; omega) (fun j hj => rfl) hP hD hS (lv_sub hl [0, 1, 2, 3, 4, 5, 6] rfl)
                      refine lv_icmp_ne (tgt := 203) hx hb dX11_choose_196 rfl (fun c_20 => ?_) (fun c_20 => ?_)
                      · have c_20 : ¬ (grA iA).toInt = (grB iB).toInt := zc_ne rfl rfl c_20
                        refine lv_iconst (v := 0) hx hb dX11_choose_203 rfl ?_
                        refine zz_i (v := pI ((chM (rdF ft st tn kd) (chW rk mn cx cy) (chB cx cy) (chL mn cx cy)) b9)) (by first | exact (zp_t (hmq.mpr (by omega))).symm | exact (zp_f (fun h => absurd (hmq.mp h) (by omega))).symm) ?_
                        exact hj_14 
                      · have c_20 : (grA iA).toInt = (grB iB).toInt := zc_eq rfl rfl c_20
                        refine lv_iconst (v := 1) hx hb dX11_choose_199 rfl ?_
                        refine lv_goto (tgt := 204) hx hb dX11_choose_200 rfl ?_
                        refine zz_i (v := pI ((chM (rdF ft st tn kd) (chW rk mn cx cy) (chB cx cy) (chL mn cx cy)) b9)) (by first | exact (zp_t (hmq.mpr (by omega))).symm | exact (zp_f (fun h => absurd (hmq.mp h) (by omega))).symm) ?_
                        exact hj_14 
                    · have c_8 : zb.toInt = (-1) := zc_eq rfl rfl c_8
                      refine lv_goto (tgt := 259) hx hb dX11_choose_110 rfl ?_
                      have hall : ∀ j, j < ft → (rdF ft st tn kd) j → D j := (by first | exact (fun j hj _ => cntP_all (by omega) j hj) | exact fun j hj hR => (bst_no hat (by omega) (by omega) j (by omega)).resolve_left (fun h => h hR))
                      have hmkF : ∀ j, j < ft → mk1 j = pI ((chM (rdF ft st tn kd) (chW rk mn cx cy) (chB cx cy) (chL mn cx cy)) j) := fun j hj => (by rw [hmk j hj]; exact zp_iff ⟨fun h => h.2, fun h => ⟨hall j hj h.1, h⟩⟩)
                      refine lv_aload_n hx hb dX11_choose_259 rfl (lv_at hl 3 rfl) ?_
                      refine lv_bipush (v := 9) hx hb dX11_choose_260 rfl ?_
                      obtain ⟨hPc, hDc, hFc⟩ := zo_sub (wc := [_, _, _, _, _, _, _, _, _, _, _, _, _, _, _, _, _, _, _, _, _, _, _, _]) hP hD hS hA [0, 1, 2, 3, 4, 5, 6, 7, 8, 9, 10, 11, 12, 13, 14, 15, 16, 17, 18, 19, 20, 21, 22, 24] (by decide +kernel) rfl
                      refine zcall (st1 := [.int (nI (cntP (chM (rdF ft st tn kd) (chW rk mn cx cy) (chB cx cy) (chL mn cx cy)) ft))]) (va_runV (As := [.int 9]) (rest := []) ⟨hx, hb, hml, hown, hts⟩ (k_M_dropMarked_y l dC dI cI cZ cF H.size k0 a (upd (upd I0 26 (nI ln)) 54 (nI pcn)) J0 9 ft dn bs w0 cp c1 c2 ln cl kd st gb it pa pb rk wd tw tn mn cx cy sa sh wh of9 we la lb lc ld mk1 (chM (rdF ft st tn kd) (chW rk mn cx cy) (chB cx cy) (chL mn cx cy)) (hft) (by first | with_reducible assumption | omega) (hmkF) (fun j hj h => h.1.1.2.1) (hz) (hdn) (hbs) (by first | with_reducible assumption | omega) (by first | with_reducible assumption | omega) (hlc) (hcl1) (hclm) (hi5_1) (hsa_1) (hmn_1) (hc1_1) (hpw_1) (hw0_1) (hfit_1) (hmin_1) (hcE_1) (hpw_2) (hfit_2) (hmin_2) (hcE_2)) (csV_219 hts rfl rfl ⟨Nat.le_of_ble_eq_true rfl, Nat.le_of_ble_eq_true rfl⟩) (zPV2 (q0 := 0) (ci := 9) hPc hDc hK hXN rfl rfl) rfl rfl hl.1 rfl (lv_room (Nat.le_of_ble_eq_true rfl)) dX11_choose_262 ⟨show (0 + (c2 - cp)) ≤ c2 - cp by omega, show (0 + (8192 * (c2 - cp))) ≤ 8192 * (c2 - cp) by omega⟩) hS hFc hFc rfl (fun t H locs ht hB hk1 hS => ?_)
                      refine ex7 hB (fun b2 sh2 t9 la1 lb1 lc1 ld1 hB0 => ?_)
                      clear hB
                      obtain ⟨p0, p1, p2, p3, p4, p5, p6, hP1, hD1⟩ := hB0
                      rw [ht] at hP1
                      obtain ⟨hP, hD⟩ := zn (W2 := [_, _, _, _, _, (om k0 (va_up a 28 b2) (upd (upd (upd (upd (upd (upd I0 14 0) 19 (nI (dn + 1))) 20 0) 26 (nI t9)) 41 (nI (psN (nnF (gnA (chM (rdF ft st tn kd) (chW rk mn cx cy) (chB cx cy) (chL mn cx cy)) ft 2 st) tn mn) (psN (nnF st tn mn) w0 ft) ft))) 54 (nI pcn)) J0), (oa (a 1) cI 201 kd), (oa (a 5) cI 201 (gnA (chM (rdF ft st tn kd) (chW rk mn cx cy) (chB cx cy) (chL mn cx cy)) ft 2 st)), (oa (a 7) cI 201 (gnA (chM (rdF ft st tn kd) (chW rk mn cx cy) (chB cx cy) (chL mn cx cy)) ft (nI (dn + 1)) gb)), (oa (a 10) cI 201 (gnA (chM (rdF ft st tn kd) (chW rk mn cx cy) (chB cx cy) (chL mn cx cy)) ft (-1 : Int32) it)), (oa (a 8) cI 201 pa), (oa (a 9) cI 201 pb), (oa (a 2) cI 201 rk), (oa (a 3) cI 201 wd), (oa (a 4) cI 201 tw), (oa (a 6) cZ 201 tn), (oa (a 11) cI 201 mn), (oa (a 12) cI 8040 cx), (oa (a 13) cI 8040 cy), (oa (a 27) cI 516 (upd (upd sa (dn - bs + 1) (nI (psN (nnF st tn mn) w0 ft))) (dn + 1 - bs + 1) (nI (psN (nnF (gnA (chM (rdF ft st tn kd) (chW rk mn cx cy) (chB cx cy) (chL mn cx cy)) ft 2 st) tn mn) (psN (nnF st tn mn) w0 ft) ft)))), (oa b2 cI (4096 * c2) sh2), (oa (a 16) cI 514 (upd wh (dn + 1) (9 : Int32))), (oa (a 17) cI 514 (upd of9 (dn + 1) (-1 : Int32))), (oa (a 18) cI 514 (upd we (dn + 1) (nI (cntP (chM (rdF ft st tn kd) (chW rk mn cx cy) (chB cx cy) (chL mn cx cy)) ft)))), (oa (a 22) cI (64 * cl) la1), (oa (a 23) cI (64 * cl) lb1), (oa (a 24) cI (64 * cl) lc1), (oa (a 25) cI (64 * cl) ld1), (oa (a 50) cZ 201 mk1)]) hP hD hk1 hFc hP1 hD1 zl_263 zl_264 zl_265 zl_266 (by decide +kernel) rfl rfl rfl rfl rfl
                      clear hk1 hPc hDc hFc hP1 hD1 ht
                      obtain ⟨hP9, hD9⟩ := zq_sub (wc := [_, _, _, _, _, _, _, _, _, _, _, _, _, _, _, _, _, _, _, _, _, _, _, _, _, _, _, _, _]) hP hD [5, 6, 7, 8, 9, 10, 11, 12, 13, 14, 15, 16, 17, 18, 19, 20, 21, 22, 23, 24, 25, 26, 27, 0, 28, 1, 2, 3, 4] rfl rfl
                      refine W.widen (k := c2 - cp) (n := 8192 * (c2 - cp)) (by omega) (by omega) ?_
                      rw [hQ9]
                      exact W.iret (v := nI (cntP (chM (rdF ft st tn kd) (chW rk mn cx cy) (chB cx cy) (chL mn cx cy)) ft)) hx hb hr (fun t ht hW => ⟨⟨rfl, b2, sh2, t9, la1, lb1, lc1, ld1, pcn, S2, mk1, mt1, jx1, jy1, gr1, (p0), (p1), (p2), (p3), (p4), (p5), (p6), by rw [ht]; exact hP9, hD9⟩, hS.F ht⟩) hS.2.2 dX11_choose_265
                  · have c_6 : ((q : Nat) : Int) < ((ft : Nat) : Int) := zc_nle (nI_toInt b9_3) (nI_toInt b9_7) c_6
                    refine lv_aload_n hx hb dX11_choose_69 rfl (lv_at hl 3 rfl) ?_
                    refine va_get (D := (dC, dI)) (ci := 9) (v := .ref (a 37)) (C := RX11) (T := TX11) (N := 55) hx hb hts inX11 hown hK hP 0 rfl rfl 37 (Nat.le_of_ble_eq_true rfl) (hts _ mw_1196) (fun _ h9 => h9) rfl dX11_choose_70 ?_
                    refine lv_iload_n hx hb dX11_choose_73 rfl (lv_at hl 0 rfl) ?_
                    have b9_21 : q < 201 := by omega
                    refine z_zald hx hb hK hP 25 1 rfl rfl (e := q) rfl b9_21 (Nat.le_of_ble_eq_true rfl) dX11_choose_74 ?_
                    refine zz_i (v := pI (¬ (rdF ft st tn kd) q ∨ D q)) (hmt q (by omega)) ?_
                    refine lv_if_ne (tgt := 99) hx hb dX11_choose_75 rfl (fun c_22 => ?_) (fun c_22 => ?_)
                    · have c_22 : ¬ (rdF ft st tn kd) q ∨ D q := zp_1 c_22
                      refine lv_iinc (v := nI (q + 1)) (lv' := [(3, .int (nI (q + 1))), (2, .int zb), (1, .int (nI r9)), (0, .ref k0)]) hx hb dX11_choose_99 hl (k := 0) rfl (nI_add q 1) (Nat.le_of_ble_eq_true rfl) rfl (fun ls hl => ?_)
                      refine lv_goto (tgt := 61) hx hb dX11_choose_102 rfl ?_
                      exact ih_61 (q + 1) zb S2 H locs ls (by first | with_reducible assumption | omega) (by first | with_reducible assumption | omega) (by first | exact bst_f hat (by first | with_reducible assumption | assumption) | exact bst_n hat (by first | with_reducible assumption | omega) (by first | with_reducible assumption | omega) (by first | with_reducible assumption | assumption) | exact bst_l hz9 hbk hbF hbm (by first | with_reducible assumption | assumption) (by first | with_reducible assumption | omega) | exact bst_g hz9 hbk hbF hbm (by first | with_reducible assumption | omega)) hP hD hS (lv_sub hl [0, 1, 2, 3] rfl)
                    · have c_22 : ¬ (¬ (rdF ft st tn kd) q ∨ D q) := zp_0 c_22
                      refine lv_iload_n hx hb dX11_choose_78 rfl (lv_at hl 1 rfl) ?_
                      refine lv_iconst (v := (-1)) hx hb dX11_choose_79 rfl ?_
                      refine lv_icmp_eq (tgt := 97) hx hb dX11_choose_80 rfl (fun c_23 => ?_) (fun c_23 => ?_)
                      · have c_23 : zb.toInt = (-1) := zc_eq rfl rfl c_23
                        refine lv_iload_n hx hb dX11_choose_97 rfl (lv_at hl 0 rfl) ?_
                        refine lv_istore_n (lv' := [(2, .int (nI q)), (3, .int (nI q)), (1, .int (nI r9)), (0, .ref k0)]) hx hb dX11_choose_98 rfl hl (Nat.le_of_ble_eq_true rfl) rfl (fun ls hl => ?_)
                        refine lv_iinc (v := nI (q + 1)) (lv' := [(3, .int (nI (q + 1))), (2, .int (nI q)), (1, .int (nI r9)), (0, .ref k0)]) hx hb dX11_choose_99 hl (k := 1) rfl (nI_add q 1) (Nat.le_of_ble_eq_true rfl) rfl (fun ls hl => ?_)
                        refine lv_goto (tgt := 61) hx hb dX11_choose_102 rfl ?_
                        exact ih_61 (q + 1) (nI q) S2 H locs ls (by first | with_reducible assumption | omega) (by first | with_reducible assumption | omega) (by first | exact bst_f hat (by first | with_reducible assumption | assumption) | exact bst_n hat (by first | with_reducible assumption | omega) (by first | with_reducible assumption | omega) (by first | with_reducible assumption | assumption) | exact bst_l hz9 hbk hbF hbm (by first | with_reducible assumption | assumption) (by first | with_reducible assumption | omega) | exact bst_g hz9 hbk hbF hbm (by first | with_reducible assumption | omega)) hP hD hS (lv_sub hl [0, 1, 2, 3] rfl)
                      · have c_23 : ¬ zb.toInt = (-1) := zc_ne rfl rfl c_23
                        have hRq_q : (rdF ft st tn kd) q := (Classical.byContradiction fun h => (show ¬ (¬ (rdF ft st tn kd) q ∨ D q) by assumption) (Or.inl h))
                        have hw_q := hwf q hRq_q.1
                        have hn_q := hw_q.2.1
                        have hk_q := hrk q hRq_q.1
                        have hc_q := chW_b hk_q hw_q
                        refine lv_aload_n hx hb dX11_choose_83 rfl (lv_at hl 3 rfl) ?_
                        refine lv_iload_n hx hb dX11_choose_84 rfl (lv_at hl 0 rfl) ?_
                        obtain ⟨hPc, hDc, hFc⟩ := zo_sub (wc := [_, _, _, _, _, _]) hP hD hS hA [0, 7, 11, 12, 13, 23] (by decide +kernel) rfl
                        refine zcall (st1 := [.long (jI (((rk q).toInt + 1) * ((ln2 (cF40 cx q) (cF40 cy q) ((nN (mn q)) - 1) : Nat) : Int)))]) (va_runV (As := [.int (nI q)]) (rest := []) ⟨hx, hb, hml, hown, hts⟩ (k_M_weight l dC dI cI cZ cF H.size k0 a (upd (upd I0 26 (nI ln)) 54 (nI pcn)) J0 q (nN (mn q)) rk mn cx cy S2 (by first | with_reducible assumption | omega) (hw_q.1) (hw_q.2.1) (hw_q.2.2) (hk_q)) (csV_228 hts rfl rfl ⟨Nat.le_of_ble_eq_true rfl, Nat.le_of_ble_eq_true rfl⟩) (zPV2 (q0 := 0) (ci := 9) hPc hDc hK hXN rfl rfl) rfl rfl hl.1 rfl (lv_room (Nat.le_of_ble_eq_true rfl)) dX11_choose_85 ⟨Nat.zero_le _, Nat.zero_le _⟩) hS hFc hFc rfl (fun t H locs ht hB hk1 hS => ?_)
                        obtain ⟨S3, hP1, hD1⟩ := hB
                        rw [ht] at hP1
                        obtain ⟨hP, hD⟩ := zn (W2 := [_, _, _, _, _, _, _, _, _, _, _, _, _, _, _, _, _, _, _, _, _, _, _, (oa (a 32) cI 8 S3), _, _, _, _, _]) hP hD hk1 hFc hP1 hD1 [0, 7, 11, 12, 13, 23] zl_268 zl_268 [0, 7, 11, 12, 13, 23] (by decide +kernel) rfl rfl rfl rfl rfl
                        clear hk1 hPc hDc hFc hP1 hD1 ht
                        refine zz_l (v := jI ((chW rk mn cx cy q : Nat) : Int)) (chW_e hk_q) ?_
                        refine lv_aload_n hx hb dX11_choose_88 rfl (lv_at hl 3 rfl) ?_
                        obtain ⟨b9, hz9, hbk, hbF, hbm⟩ := bst_get hat (by omega)
                        have hRq_b9 : (rdF ft st tn kd) b9 := (Classical.byContradiction fun h => hbF (Or.inl h))
                        have hw_b9 := hwf b9 hRq_b9.1
                        have hn_b9 := hw_b9.2.1
                        have hk_b9 := hrk b9 hRq_b9.1
                        have hc_b9 := chW_b hk_b9 hw_b9
                        refine lv_iload_n hx hb dX11_choose_89 rfl (lv_at hl 1 rfl) ?_
                        refine zz_i (v := nI b9) (hz9) ?_
                        obtain ⟨hPc, hDc, hFc⟩ := zo_sub (wc := [_, _, _, _, _, _]) hP hD hS hA [0, 7, 11, 12, 13, 23] (by decide +kernel) rfl
                        refine zcall (st1 := [.long (jI (((rk b9).toInt + 1) * ((ln2 (cF40 cx b9) (cF40 cy b9) ((nN (mn b9)) - 1) : Nat) : Int))), .long (jI ((chW rk mn cx cy q : Nat) : Int))]) (va_runV (As := [.int (nI b9)]) (rest := [.long (jI ((chW rk mn cx cy q : Nat) : Int))]) ⟨hx, hb, hml, hown, hts⟩ (k_M_weight l dC dI cI cZ cF H.size k0 a (upd (upd I0 26 (nI ln)) 54 (nI pcn)) J0 b9 (nN (mn b9)) rk mn cx cy S3 (by first | with_reducible assumption | omega) (hw_b9.1) (hw_b9.2.1) (hw_b9.2.2) (hk_b9)) (csV_228 hts rfl rfl ⟨Nat.le_of_ble_eq_true rfl, Nat.le_of_ble_eq_true rfl⟩) (zPV2 (q0 := 0) (ci := 9) hPc hDc hK hXN rfl rfl) rfl rfl hl.1 rfl (lv_room (Nat.le_of_ble_eq_true rfl)) dX11_choose_90 ⟨Nat.zero_le _, Nat.zero_le _⟩) hS hFc hFc rfl (fun t H locs ht hB hk1 hS => ?_)
                        obtain ⟨S4, hP1, hD1⟩ := hB
                        rw [ht] at hP1
                        obtain ⟨hP, hD⟩ := zn (W2 := [_, _, _, _, _, _, _, _, _, _, _, _, _, _, _, _, _, _, _, _, _, _, _, (oa (a 32) cI 8 S4), _, _, _, _, _]) hP hD hk1 hFc hP1 hD1 [0, 7, 11, 12, 13, 23] zl_268 zl_268 [0, 7, 11, 12, 13, 23] (by decide +kernel) rfl rfl rfl rfl rfl
                        clear hk1 hPc hDc hFc hP1 hD1 ht
                        refine zz_l (v := jI ((chW rk mn cx cy b9 : Nat) : Int)) (chW_e hk_b9) ?_
                        refine W.lcmp hx hb dX11_choose_93 ?_
                        refine lv_if_ge (tgt := 99) hx hb dX11_choose_94 rfl (fun c_24 => ?_) (fun c_24 => ?_)
                        · have c_24 : ((chW rk mn cx cy b9 : Nat) : Int) ≤ ((chW rk mn cx cy q : Nat) : Int) := zl_ge (jI_toInt (by omega)) (jI_toInt (by omega)) c_24
                          refine lv_iinc (v := nI (q + 1)) (lv' := [(3, .int (nI (q + 1))), (2, .int zb), (1, .int (nI r9)), (0, .ref k0)]) hx hb dX11_choose_99 hl (k := 0) rfl (nI_add q 1) (Nat.le_of_ble_eq_true rfl) rfl (fun ls hl => ?_)
                          refine lv_goto (tgt := 61) hx hb dX11_choose_102 rfl ?_
                          exact ih_61 (q + 1) zb S4 H locs ls (by first | with_reducible assumption | omega) (by first | with_reducible assumption | omega) (by first | exact bst_f hat (by first | with_reducible assumption | assumption) | exact bst_n hat (by first | with_reducible assumption | omega) (by first | with_reducible assumption | omega) (by first | with_reducible assumption | assumption) | exact bst_l hz9 hbk hbF hbm (by first | with_reducible assumption | assumption) (by first | with_reducible assumption | omega) | exact bst_g hz9 hbk hbF hbm (by first | with_reducible assumption | omega)) hP hD hS (lv_sub hl [0, 1, 2, 3] rfl)
                        · have c_24 : ((chW rk mn cx cy q : Nat) : Int) < ((chW rk mn cx cy b9 : Nat) : Int) := zl_nge (jI_toInt (by omega)) (jI_toInt (by omega)) c_24
                          refine lv_iload_n hx hb dX11_choose_97 rfl (lv_at hl 0 rfl) ?_
                          refine lv_istore_n (lv' := [(2, .int (nI q)), (3, .int (nI q)), (1, .int (nI r9)), (0, .ref k0)]) hx hb dX11_choose_98 rfl hl (Nat.le_of_ble_eq_true rfl) rfl (fun ls hl => ?_)
                          refine lv_iinc (v := nI (q + 1)) (lv' := [(3, .int (nI (q + 1))), (2, .int (nI q)), (1, .int (nI r9)), (0, .ref k0)]) hx hb dX11_choose_99 hl (k := 1) rfl (nI_add q 1) (Nat.le_of_ble_eq_true rfl) rfl (fun ls hl => ?_)
                          refine lv_goto (tgt := 61) hx hb dX11_choose_102 rfl ?_
                          exact ih_61 (q + 1) (nI q) S4 H locs ls (by first | with_reducible assumption | omega) (by first | with_reducible assumption | omega) (by first | exact bst_f hat (by first | with_reducible assumption | assumption) | exact bst_n hat (by first | with_reducible assumption | omega) (by first | with_reducible assumption | omega) (by first | with_reducible assumption | assumption) | exact bst_l hz9 hbk hbF hbm (by first | with_reducible assumption | assumption) (by first | with_reducible assumption | omega) | exact bst_g hz9 hbk hbF hbm (by first | with_reducible assumption | omega)) hP hD hS (lv_sub hl [0, 1, 2, 3] rfl)
              exact hl_61 _ 0 (-1) S1 H locs ls (Nat.lt_succ_self _) (by first | with_reducible assumption | omega) (bst_0 _ _) hP hD hS (lv_sub hl [0, 1, 2, 3] rfl)
        exact hl_49 _ 0 0 (fun _ => False) mt0 mk0 jx jy gr S0 H locs ls (Nat.lt_succ_self _) (by first | with_reducible assumption | omega) (chD_0 _ _) (Nat.zero_le _) (fun j hj => ht0 j (by first | with_reducible assumption | omega)) (fun j hj => hm0 j (by first | with_reducible assumption | omega)) (chI_0 _ _ _ _) (by first | with_reducible assumption | omega) hP hD hS (lv_sub hl [0, 1] rfl)
      · have c_1 : ((q : Nat) : Int) < ((ft : Nat) : Int) := zc_nle (nI_toInt b9_3) (nI_toInt b9_2) c_1
        refine lv_aload_n hx hb dX11_choose_15 rfl (lv_at hl 1 rfl) ?_
        refine va_get (D := (dC, dI)) (ci := 9) (v := .ref (a 50)) (C := RX11) (T := TX11) (N := 55) hx hb hts inX11 hown hK hP 0 rfl rfl 50 (Nat.le_of_ble_eq_true rfl) (hts _ mw_1209) (fun _ h9 => h9) rfl dX11_choose_16 ?_
        refine lv_iload_n hx hb dX11_choose_19 rfl (lv_at hl 0 rfl) ?_
        refine lv_iconst (v := 0) hx hb dX11_choose_20 rfl ?_
        have b9_25 : q < 201 := by omega
        refine z_zast hx hb hK hP hD hS 24 1 rfl rfl (e := q) (x := 0) rfl b9_25 (Nat.le_of_ble_eq_true rfl) (by decide) dX11_choose_21 (fun H locs hP hD hS => ?_)
        obtain ⟨hP, hD⟩ := zre (W2 := [_, _, _, _, _, _, _, _, _, _, _, _, _, _, _, _, _, _, _, _, _, _, _, _, (oa (a 50) cZ 201 (upd mk0 q 0)), _, _, _, _]) hP hD rfl
        refine lv_aload_n hx hb dX11_choose_22 rfl (lv_at hl 1 rfl) ?_
        refine va_get (D := (dC, dI)) (ci := 9) (v := .ref (a 37)) (C := RX11) (T := TX11) (N := 55) hx hb hts inX11 hown hK hP 0 rfl rfl 37 (Nat.le_of_ble_eq_true rfl) (hts _ mw_1196) (fun _ h9 => h9) rfl dX11_choose_23 ?_
        refine lv_iload_n hx hb dX11_choose_26 rfl (lv_at hl 0 rfl) ?_
        refine lv_aload_n hx hb dX11_choose_27 rfl (lv_at hl 1 rfl) ?_
        refine lv_iload_n hx hb dX11_choose_28 rfl (lv_at hl 0 rfl) ?_
        obtain ⟨hPc, hDc, hFc, hI1⟩ := zi_sub (wc := [_, _, _, _]) hP hD hS hA [0, 2, 10, 1] (by decide +kernel) rfl
        refine zcall (st1 := [.int (pI (lvF ft st tn q ∧ (kd q).toInt = 3)), .int (nI q), .ref (a 37)]) (va_runV (As := [.int (nI q)]) (rest := [.int (nI q), .ref (a 37)]) ⟨hx, hb, hml, hown, hts⟩ (k_M_isRoad l dC dI cI cZ cF H.size k0 a (upd (upd I0 26 (nI ln)) 54 0) J0 q ft st tn kd (by first | with_reducible assumption | assumption) (by first | with_reducible assumption | omega) (by first | with_reducible assumption | omega)) (csV_229 hts rfl rfl ⟨Nat.le_of_ble_eq_true rfl, Nat.le_of_ble_eq_true rfl⟩) (zPV2 (q0 := 0) (ci := 9) hPc hDc hK hXN rfl rfl) rfl rfl hl.1 rfl (lv_room (Nat.le_of_ble_eq_true rfl)) dX11_choose_29 ⟨Nat.zero_le _, Nat.zero_le _⟩) hS hFc hFc rfl (fun t H locs ht hB hk1 hS => ?_)
        obtain ⟨hP1, hD1⟩ := hB
        rw [ht] at hP1
        replace hP := z0 hP hD hk1 hP1 hI1
        clear hk1 hPc hDc hFc hP1 hD1 ht hI1
        have hj_26 : W p l e ({ frames := 4, cells := c2 - cp, slots := 8192 * (c2 - cp), locals := 93 } : Room) s m ([.ref k0] : List Value).toArray below meth c H locs 0 0 Q9 (F0 m 40 ls [.int (pI (¬ (rdF ft st tn kd) q)), .int (nI q), .ref (a 37)]) := by
          refine z_zast hx hb hK hP hD hS 25 1 rfl rfl (e := q) (x := pI (¬ (rdF ft st tn kd) q)) rfl b9_25 (Nat.le_of_ble_eq_true rfl) (zp_and _) dX11_choose_40 (fun H locs hP hD hS => ?_)
          obtain ⟨hP, hD⟩ := zre (W2 := [_, _, _, _, _, _, _, _, _, _, _, _, _, _, _, _, _, _, _, _, _, _, _, _, _, (oa (a 37) cZ 201 (upd mt0 q (pI (¬ (rdF ft st tn kd) q)))), _, _, _]) hP hD rfl
          refine lv_iinc (v := nI (q + 1)) (lv' := [(1, .int (nI (q + 1))), (0, .ref k0)]) hx hb dX11_choose_41 hl (k := 0) rfl (nI_add q 1) (Nat.le_of_ble_eq_true rfl) rfl (fun ls hl => ?_)
          refine lv_goto (tgt := 7) hx hb dX11_choose_44 rfl ?_
          exact ih_7 (q + 1) (upd mk0 q 0) (upd mt0 q (pI (¬ (rdF ft st tn kd) q))) H locs ls (by first | with_reducible assumption | omega) (by first | with_reducible assumption | omega) (by intro j hj; rcases Nat.lt_or_ge j q with h | h; (rw [show upd mk0 q 0 j = mk0 j from if_neg (by first | with_reducible assumption | omega)]; exact hm0 j h); (rw [show j = q by omega, up_at]; exact (zp_f (fun h => h.1)).symm)) (by intro j hj; rcases Nat.lt_or_ge j q with h | h; (rw [show upd mt0 q _ j = mt0 j from if_neg (by first | with_reducible assumption | omega)]; exact ht0 j h); (rw [show j = q by omega, up_at]; exact zp_iff ⟨Or.inl, fun h => h.resolve_right id⟩)) hP hD hS (lv_sub hl [0, 1] rfl)
        refine lv_if_ne (tgt := 39) hx hb dX11_choose_32 rfl (fun c_27 => ?_) (fun c_27 => ?_)
        · have c_27 : lvF ft st tn q ∧ (kd q).toInt = 3 := zp_1 c_27
          refine lv_iconst (v := 0) hx hb dX11_choose_39 rfl ?_
          refine zz_i (v := pI (¬ (rdF ft st tn kd) q)) (by first | exact (zp_t (by first | with_reducible assumption | assumption)).symm | exact (zp_f (fun h => h (by first | with_reducible assumption | assumption))).symm) ?_
          exact hj_26 
        · have c_27 : ¬ (lvF ft st tn q ∧ (kd q).toInt = 3) := zp_0 c_27
          refine lv_iconst (v := 1) hx hb dX11_choose_35 rfl ?_
          refine lv_goto (tgt := 40) hx hb dX11_choose_36 rfl ?_
          refine zz_i (v := pI (¬ (rdF ft st tn kd) q)) (by first | exact (zp_t (by first | with_reducible assumption | assumption)).symm | exact (zp_f (fun h => h (by first | with_reducible assumption | assumption))).symm) ?_
          exact hj_26 
  exact hl_7 _ 0 mk mt H locs ls (Nat.lt_succ_self _) (by first | with_reducible assumption | omega) (by intro j hj; omega) (by intro j hj; omega) hP hD hS (lv_sub hl [0, 1] rfl)
end
