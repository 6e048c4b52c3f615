section
set_option maxHeartbeats 4000000 in
set_option maxRecDepth 100000 in
theorem k_M_placeOf_u (l : Launch) (dC : Nat → ClassId) (dI : Nat → Nat → Nat) (cI cZ cF : ClassId) (sz : Nat) (k0 : Nat) (a : Nat → Nat) (I0 : Nat → Int32) (J0 : Nat → Int64) (px : Int32) (py : Int32) (pc9 : Nat) (jx : Nat → Int32) (jy : Nat → Int32) (gr : Nat → Int32) (hp400 : pc9 ≤ 401) : Met l yX11_placeOf (.code yX11_placeOf cX11_placeOf 4 (some .int) :: ws0) ({ frames := 0, cells := 0, slots := 0, locals := 0 } : Room) (va_Pc [.ref k0, .int px, .int py] (zPre (dC, dI) classes (zTy cI cZ cF) [(om k0 a (upd I0 54 (nI pc9)) J0), (oa (a 51) cI 402 jx), (oa (a 52) cI 402 jy), (oa (a 53) cI 402 gr)] sz zXN)) (zQe (fun v9 t => ∃ (pc1 : Nat), ∃ (b9 : Nat), ∃ (jx1 : Nat → Int32), ∃ (jy1 : Nat → Int32), ∃ (gr1 : Nat → Int32), v9 = (some (.int (nI b9))) ∧ (b9 < pc1 ∧ pc9 ≤ pc1 ∧ pc1 ≤ pc9 + 1) ∧ ((jx1 b9, jy1 b9) = (px, py)) ∧ (∀ j, j < pc9 → jx1 j = jx j ∧ jy1 j = jy j ∧ gr1 j = gr j) ∧ (pc1 = pc9 ∨ (pc1 = pc9 + 1 ∧ b9 = pc9 ∧ gr1 pc9 = nI pc9 ∧ ∀ j, j < pc9 → ¬ ((jx j).toInt = px.toInt ∧ (jy j).toInt = py.toInt))) ∧ va_P (dC, dI) classes [(om k0 a (upd I0 54 (nI pc1)) J0), (oa (a 51) cI 402 jx1), (oa (a 52) cI 402 jy1), (oa (a 53) cI 402 gr1)] t.heap ∧ va_D (va_A [(om k0 a (upd I0 54 (nI pc9)) J0), (oa (a 51) cI 402 jx), (oa (a 52) cI 402 jy), (oa (a 53) cI 402 gr)] sz) [(om k0 a (upd I0 54 (nI pc1)) J0), (oa (a 51) cI 402 jx1), (oa (a 52) cI 402 jy1), (oa (a 53) cI 402 gr1)]) (va_A [(om k0 a (upd I0 54 (nI pc9)) J0), (oa (a 51) cI 402 jx), (oa (a 52) cI 402 jy), (oa (a 53) cI 402 gr)] sz)) 0 0 (va_A [(om k0 a (upd I0 54 (nI pc9)) J0), (oa (a 51) cI 402 jx), (oa (a 52) cI 402 jy), (oa (a 53) cI 402 gr)] sz) := by
  refine Met.ofW (cc := cX11_placeOf) (maxL := 4) (ret := (some .int)) rfl rfl ?_
  intro p e s m args below meth c s₁ B hml hv
  obtain ⟨rfl, hsz, hP, hK, hD0, hXN⟩ := hv
  have hx := B.exec
  have hb := B.bytes
  have hr := B.returns
  have hts0 := atoms_spec (ws := .code yX11_placeOf cX11_placeOf 4 (some .int) :: ws0) B.pre
  have hts : ∀ w9 ∈ ws0, w9.before ([.ref k0, .int px, .int py] : List Value).toArray s = true := fun w9 h => hts0 w9 (List.mem_cons_of_mem _ h)
  have hown : s.vm.findClass "ScaleShopModel" = some m.cls := findClass_of_methodNamed B.named
  have hlocks := B.notSynchronized
  subst hsz
  have hD := hD0.self (sz := s.heap.size)
  clear hD0
  generalize hAe : va_A [(om k0 a (upd I0 54 (nI pc9)) J0), (oa (a 51) cI 402 jx), (oa (a 52) cI 402 jy), (oa (a 53) cI 402 gr)] s.heap.size = A at hD ⊢
  have hA : ∀ q : Nat, s.heap.size ≤ q → A q := fun q h => by rw [← hAe]; exact Or.inr h
  clear hAe
  have hS : va_S A s.heap s.heap [] := va_S.rf
  have hP : va_P (dC, dI) classes [(om k0 a (upd I0 54 (nI pc9)) J0), (oa (a 51) cI 402 jx), (oa (a 52) cI 402 jy), (oa (a 53) cI 402 gr)] s.heap := hP
  obtain ⟨Q9, hQ9⟩ : ∃ Q9 : State → Prop, Q9 = MQ below (zQe (fun v9 t => ∃ (pc1 : Nat), ∃ (b9 : Nat), ∃ (jx1 : Nat → Int32), ∃ (jy1 : Nat → Int32), ∃ (gr1 : Nat → Int32), v9 = (some (.int (nI b9))) ∧ (b9 < pc1 ∧ pc9 ≤ pc1 ∧ pc1 ≤ pc9 + 1) ∧ ((jx1 b9, jy1 b9) = (px, py)) ∧ (∀ j, j < pc9 → jx1 j = jx j ∧ jy1 j = jy j ∧ gr1 j = gr j) ∧ (pc1 = pc9 ∨ (pc1 = pc9 + 1 ∧ b9 = pc9 ∧ gr1 pc9 = nI pc9 ∧ ∀ j, j < pc9 → ¬ ((jx j).toInt = px.toInt ∧ (jy j).toInt = py.toInt))) ∧ va_P (dC, dI) classes [(om k0 a (upd I0 54 (nI pc1)) J0), (oa (a 51) cI 402 jx1), (oa (a 52) cI 402 jy1), (oa (a 53) cI 402 gr1)] t.heap ∧ va_D A [(om k0 a (upd I0 54 (nI pc1)) J0), (oa (a 51) cI 402 jx1), (oa (a 52) cI 402 jy1), (oa (a 53) cI 402 gr1)]) A) ([.ref k0, .int px, .int py] : List Value).toArray s 0 0 A := ⟨_, rfl⟩
  rw [← hQ9]
  have hl := lv_entry ([.ref k0, .int px, .int py]) (n := 4) (Nat.le_of_ble_eq_true rfl)
  rw [lg_entry_eq]
  generalize (lg_sl ([.ref k0, .int px, .int py]) ++ List.replicate (4 - (lg_sl ([.ref k0, .int px, .int py])).length) Slot.unset).toArray = ls at hl ⊢
  have hl : lv_has ls 4 [(0, .ref k0), (1, .int px), (2, .int py)] := hl
  refine lv_iconst (v := 0) hx hb dX11_placeOf_0 rfl ?_
  refine lv_istore_n (lv' := [(3, .int 0), (0, .ref k0), (1, .int px), (2, .int py)]) hx hb dX11_placeOf_1 rfl hl (Nat.le_of_ble_eq_true rfl) rfl (fun ls hl => ?_)
  have hl_2 : ∀ (n9 : Nat) (k : Nat) (H : Heap) (locs : List Loc) (ls : Array Slot), pc9 - k < n9 → (k ≤ pc9) → (∀ j, j < k → ¬ ((jx j).toInt = px.toInt ∧ (jy j).toInt = py.toInt)) → va_P (dC, dI) classes [(om k0 a (upd I0 54 (nI pc9)) J0), (oa (a 51) cI 402 jx), (oa (a 52) cI 402 jy), (oa (a 53) cI 402 gr)] H → va_D A [(om k0 a (upd I0 54 (nI pc9)) J0), (oa (a 51) cI 402 jx), (oa (a 52) cI 402 jy), (oa (a 53) cI 402 gr)] → va_S A s.heap H locs → lv_has ls 4 [(3, .int (nI k)), (0, .ref k0), (1, .int px), (2, .int py)] → W p l e ((headSpec (.code yX11_placeOf cX11_placeOf 4 (some .int) :: ws0) ({ frames := 0, cells := 0, slots := 0, locals := 0 } : Room)).room) s m ([.ref k0, .int px, .int py] : List Value).toArray below meth c H locs 0 0 Q9 (F0 m 2 ls []) := by
    intro n9
    induction n9 with
    | zero => intro k H locs ls hm; exact absurd hm (Nat.not_lt_zero _)
    | succ n9 ih_2 =>
      intro k H locs ls hm hk hno hP hD hS hl
      refine lv_iload_n hx hb dX11_placeOf_2 rfl (lv_at hl 0 rfl) ?_
      refine lv_aload_n hx hb dX11_placeOf_3 rfl (lv_at hl 1 rfl) ?_
      refine va_get (D := (dC, dI)) (ci := 9) (v := .int (nI pc9)) (C := RX11) (T := TX11) (N := 55) hx hb hts inX11 hown hK hP 0 rfl rfl 54 (Nat.le_of_ble_eq_true rfl) (hts _ mw_1213) (fun _ h9 => h9) rfl dX11_placeOf_4 ?_
      have b9_2 : zlt (k) := show k < 2147483648 by omega
      have b9_3 : zlt (pc9) := show pc9 < 2147483648 by omega
      refine lv_icmp_ge (tgt := 38) hx hb dX11_placeOf_7 rfl (fun c_1 => ?_) (fun c_1 => ?_)
      · have c_1 : ((pc9 : Nat) : Int) ≤ ((k : Nat) : Int) := zc_le (nI_toInt b9_3) (nI_toInt b9_2) c_1
        refine lv_aload_n hx hb dX11_placeOf_38 rfl (lv_at hl 1 rfl) ?_
        refine va_get (D := (dC, dI)) (ci := 9) (v := .ref (a 51)) (C := RX11) (T := TX11) (N := 55) hx hb hts inX11 hown hK hP 0 rfl rfl 51 (Nat.le_of_ble_eq_true rfl) (hts _ mw_1210) (fun _ h9 => h9) rfl dX11_placeOf_39 ?_
        refine lv_aload_n hx hb dX11_placeOf_42 rfl (lv_at hl 1 rfl) ?_
        refine va_get (D := (dC, dI)) (ci := 9) (v := .int (nI pc9)) (C := RX11) (T := TX11) (N := 55) hx hb hts inX11 hown hK hP 0 rfl rfl 54 (Nat.le_of_ble_eq_true rfl) (hts _ mw_1213) (fun _ h9 => h9) rfl dX11_placeOf_43 ?_
        refine lv_iload_n hx hb dX11_placeOf_46 rfl (lv_at hl 2 rfl) ?_
        have b9_4 : pc9 < 402 := by omega
        refine z_iast hx hb hK hP hD hS 1 0 rfl rfl (e := pc9) (x := px) rfl b9_4 (Nat.le_of_ble_eq_true rfl) dX11_placeOf_47 (fun H locs hP hD hS => ?_)
        obtain ⟨hP, hD⟩ := zre (W2 := [_, (oa (a 51) cI 402 (upd jx pc9 px)), _, _]) hP hD rfl
        refine lv_aload_n hx hb dX11_placeOf_48 rfl (lv_at hl 1 rfl) ?_
        refine va_get (D := (dC, dI)) (ci := 9) (v := .ref (a 52)) (C := RX11) (T := TX11) (N := 55) hx hb hts inX11 hown hK hP 0 rfl rfl 52 (Nat.le_of_ble_eq_true rfl) (hts _ mw_1211) (fun _ h9 => h9) rfl dX11_placeOf_49 ?_
        refine lv_aload_n hx hb dX11_placeOf_52 rfl (lv_at hl 1 rfl) ?_
        refine va_get (D := (dC, dI)) (ci := 9) (v := .int (nI pc9)) (C := RX11) (T := TX11) (N := 55) hx hb hts inX11 hown hK hP 0 rfl rfl 54 (Nat.le_of_ble_eq_true rfl) (hts _ mw_1213) (fun _ h9 => h9) rfl dX11_placeOf_53 ?_
        refine lv_iload_n hx hb dX11_placeOf_56 rfl (lv_at hl 3 rfl) ?_
        refine z_iast hx hb hK hP hD hS 2 0 rfl rfl (e := pc9) (x := py) rfl b9_4 (Nat.le_of_ble_eq_true rfl) dX11_placeOf_57 (fun H locs hP hD hS => ?_)
        obtain ⟨hP, hD⟩ := zre (W2 := [_, _, (oa (a 52) cI 402 (upd jy pc9 py)), _]) hP hD rfl
        refine lv_aload_n hx hb dX11_placeOf_58 rfl (lv_at hl 1 rfl) ?_
        refine va_get (D := (dC, dI)) (ci := 9) (v := .ref (a 53)) (C := RX11) (T := TX11) (N := 55) hx hb hts inX11 hown hK hP 0 rfl rfl 53 (Nat.le_of_ble_eq_true rfl) (hts _ mw_1212) (fun _ h9 => h9) rfl dX11_placeOf_59 ?_
        refine lv_aload_n hx hb dX11_placeOf_62 rfl (lv_at hl 1 rfl) ?_
        refine va_get (D := (dC, dI)) (ci := 9) (v := .int (nI pc9)) (C := RX11) (T := TX11) (N := 55) hx hb hts inX11 hown hK hP 0 rfl rfl 54 (Nat.le_of_ble_eq_true rfl) (hts _ mw_1213) (fun _ h9 => h9) rfl dX11_placeOf_63 ?_
        refine lv_aload_n hx hb dX11_placeOf_66 rfl (lv_at hl 1 rfl) ?_
        refine va_get (D := (dC, dI)) (ci := 9) (v := .int (nI pc9)) (C := RX11) (T := TX11) (N := 55) hx hb hts inX11 hown hK hP 0 rfl rfl 54 (Nat.le_of_ble_eq_true rfl) (hts _ mw_1213) (fun _ h9 => h9) rfl dX11_placeOf_67 ?_
        refine z_iast hx hb hK hP hD hS 3 0 rfl rfl (e := pc9) (x := nI pc9) rfl b9_4 (Nat.le_of_ble_eq_true rfl) dX11_placeOf_70 (fun H locs hP hD hS => ?_)
        obtain ⟨hP, hD⟩ := zre (W2 := [_, _, _, (oa (a 53) cI 402 (upd gr pc9 (nI pc9)))]) hP hD rfl
        refine lv_aload_n hx hb dX11_placeOf_71 rfl (lv_at hl 1 rfl) ?_
        refine lv_dup hx hb dX11_placeOf_72 rfl ?_
        refine va_get (D := (dC, dI)) (ci := 9) (v := .int (nI pc9)) (C := RX11) (T := TX11) (N := 55) hx hb hts inX11 hown hK hP 0 rfl rfl 54 (Nat.le_of_ble_eq_true rfl) (hts _ mw_1213) (fun _ h9 => h9) rfl dX11_placeOf_73 ?_
        refine lv_iconst (v := 1) hx hb dX11_placeOf_76 rfl ?_
        refine lv_iadd hx hb dX11_placeOf_77 ?_
        refine zz_i (v := nI (pc9 + 1)) (nI_add pc9 1) ?_
        refine va_put (D := (dC, dI)) (ci := 9) (v := .int (nI (pc9 + 1))) (ty := .int) (C := RX11) (T := TX11) (N := 55) hx hb hts inX11 tyX11 tyX11_ok nmX11 hown hK hP hD hS 0 rfl rfl 54 (by decide) (hts _ mw_1213) (fun _ h9 => h9) rfl (by decide +kernel) rfl rfl (Nat.le_of_ble_eq_true rfl) dX11_placeOf_78 (fun H locs hP hD hS => ?_)
        obtain ⟨hP, hD⟩ := zre (W2 := [(om k0 a (upd I0 54 (nI (pc9 + 1))) J0), _, _, _]) hP hD rfl
        refine lv_aload_n hx hb dX11_placeOf_81 rfl (lv_at hl 1 rfl) ?_
        refine va_get (D := (dC, dI)) (ci := 9) (v := .int (nI (pc9 + 1))) (C := RX11) (T := TX11) (N := 55) hx hb hts inX11 hown hK hP 0 rfl rfl 54 (Nat.le_of_ble_eq_true rfl) (hts _ mw_1213) (fun _ h9 => h9) rfl dX11_placeOf_82 ?_
        refine lv_iconst (v := 1) hx hb dX11_placeOf_85 rfl ?_
        refine lv_isub hx hb dX11_placeOf_86 ?_
        refine zz_i (v := nI ((pc9 + 1) - 1)) (pk_sub (a := pc9 + 1) (b := 1) (by omega)) ?_
        refine zz_i (v := nI pc9) (zn_eq (by omega)) ?_
        have hkp : k = pc9 := (by omega)
        rw [hkp] at hno
        obtain ⟨hP9, hD9⟩ := zu_sub (wc := [_, _, _, _]) hP hD [true, true, true, true] rfl rfl
        rw [hQ9]
        exact W.iret (v := nI pc9) hx hb hr (fun t ht hW => ⟨⟨_, rfl, (pc9 + 1), pc9, (upd jx pc9 px), (upd jy pc9 py), (upd gr pc9 (nI pc9)), rfl, (⟨by omega, by omega, by omega⟩), (by rw [up_at, up_at]), (fun j hj => ⟨if_neg (by omega), if_neg (by omega), if_neg (by omega)⟩), (Or.inr ⟨rfl, rfl, up_at _ _ _, fun j hj => hno j (by omega)⟩), by rw [ht]; exact hP9, hD9⟩, hS.F ht⟩) hS.2.2 dX11_placeOf_87
      · have c_1 : ((k : Nat) : Int) < ((pc9 : Nat) : Int) := zc_nle (nI_toInt b9_3) (nI_toInt b9_2) c_1
        refine lv_aload_n hx hb dX11_placeOf_10 rfl (lv_at hl 1 rfl) ?_
        refine va_get (D := (dC, dI)) (ci := 9) (v := .ref (a 51)) (C := RX11) (T := TX11) (N := 55) hx hb hts inX11 hown hK hP 0 rfl rfl 51 (Nat.le_of_ble_eq_true rfl) (hts _ mw_1210) (fun _ h9 => h9) rfl dX11_placeOf_11 ?_
        refine lv_iload_n hx hb dX11_placeOf_14 rfl (lv_at hl 0 rfl) ?_
        have b9_5 : k < 402 := by omega
        refine z_iald hx hb hK hP 1 0 rfl rfl (e := k) rfl b9_5 (Nat.le_of_ble_eq_true rfl) dX11_placeOf_15 ?_
        refine lv_iload_n hx hb dX11_placeOf_16 rfl (lv_at hl 2 rfl) ?_
        refine lv_icmp_ne (tgt := 32) hx hb dX11_placeOf_17 rfl (fun c_6 => ?_) (fun c_6 => ?_)
        · have c_6 : ¬ (jx k).toInt = px.toInt := zc_ne rfl rfl c_6
          refine lv_iinc (v := nI (k + 1)) (lv' := [(3, .int (nI (k + 1))), (0, .ref k0), (1, .int px), (2, .int py)]) hx hb dX11_placeOf_32 hl (k := 0) rfl (nI_add k 1) (Nat.le_of_ble_eq_true rfl) rfl (fun ls hl => ?_)
          refine lv_goto (tgt := 2) hx hb dX11_placeOf_35 rfl ?_
          exact ih_2 (k + 1) H locs ls (by first | with_reducible assumption | omega) (by first | with_reducible assumption | omega) (by intro j hj; rcases Nat.lt_or_ge j k with h | h; exact hno j h; rw [show j = k by omega]; omega) hP hD hS (lv_sub hl [0, 1, 2, 3] rfl)
        · have c_6 : (jx k).toInt = px.toInt := zc_eq rfl rfl c_6
          refine lv_aload_n hx hb dX11_placeOf_20 rfl (lv_at hl 1 rfl) ?_
          refine va_get (D := (dC, dI)) (ci := 9) (v := .ref (a 52)) (C := RX11) (T := TX11) (N := 55) hx hb hts inX11 hown hK hP 0 rfl rfl 52 (Nat.le_of_ble_eq_true rfl) (hts _ mw_1211) (fun _ h9 => h9) rfl dX11_placeOf_21 ?_
          refine lv_iload_n hx hb dX11_placeOf_24 rfl (lv_at hl 0 rfl) ?_
          have b9_7 : k < 402 := by omega
          refine z_iald hx hb hK hP 2 0 rfl rfl (e := k) rfl b9_7 (Nat.le_of_ble_eq_true rfl) dX11_placeOf_25 ?_
          refine lv_iload_n hx hb dX11_placeOf_26 rfl (lv_at hl 3 rfl) ?_
          refine lv_icmp_ne (tgt := 32) hx hb dX11_placeOf_27 rfl (fun c_8 => ?_) (fun c_8 => ?_)
          · have c_8 : ¬ (jy k).toInt = py.toInt := zc_ne rfl rfl c_8
            refine lv_iinc (v := nI (k + 1)) (lv' := [(3, .int (nI (k + 1))), (0, .ref k0), (1, .int px), (2, .int py)]) hx hb dX11_placeOf_32 hl (k := 0) rfl (nI_add k 1) (Nat.le_of_ble_eq_true rfl) rfl (fun ls hl => ?_)
            refine lv_goto (tgt := 2) hx hb dX11_placeOf_35 rfl ?_
            exact ih_2 (k + 1) H locs ls (by first | with_reducible assumption | omega) (by first | with_reducible assumption | omega) (by intro j hj; rcases Nat.lt_or_ge j k with h | h; exact hno j h; rw [show j = k by omega]; omega) hP hD hS (lv_sub hl [0, 1, 2, 3] rfl)
          · have c_8 : (jy k).toInt = py.toInt := zc_eq rfl rfl c_8
            refine lv_iload_n hx hb dX11_placeOf_30 rfl (lv_at hl 0 rfl) ?_
            obtain ⟨hP9, hD9⟩ := zu_sub (wc := [_, _, _, _]) hP hD [true, true, true, true] rfl rfl
            rw [hQ9]
            exact W.iret (v := nI k) hx hb hr (fun t ht hW => ⟨⟨_, rfl, pc9, k, jx, jy, gr, rfl, (⟨by omega, by omega, by omega⟩), (ptE (by omega) (by omega)), (fun j hj => ⟨rfl, rfl, rfl⟩), (Or.inl rfl), by rw [ht]; exact hP9, hD9⟩, hS.F ht⟩) hS.2.2 dX11_placeOf_31
  exact hl_2 _ 0 s.heap [] ls (Nat.lt_succ_self _) (by first | with_reducible assumption | omega) (by intro j hj; omega) hP hD hS (lv_sub hl [0, 1, 2, 3] rfl)
set_option maxHeartbeats 4000000 in
set_option maxRecDepth 100000 in
theorem k_M_choose_r (l : Launch) (dC : Nat → ClassId) (dI : Nat → Nat → Nat) (cI cZ cF : ClassId) (sz : Nat) (k0 : Nat) (a : Nat → Nat) (I0 : Nat → Int32) (J0 : Nat → Int64) (ft : Nat) (st : Nat → Int32) (tn : Nat → Int32) (kd : Nat → Int32) (rk : Nat → Int32) (mn : Nat → Int32) (cx : Nat → Int32) (cy : Nat → Int32) (S0 : Nat → Int32) (mk : Nat → Int32) (mt : Nat → Int32) (jx : Nat → Int32) (jy : Nat → Int32) (gr : Nat → Int32) (hft : I0 0 = nI ft) (h200 : ft ≤ 200) (hwf : ∀ q, lvF ft st tn q → wfM mn cx cy q) (hrk : ∀ q, lvF ft st tn q → 0 ≤ (rk q).toInt ∧ (rk q).toInt ≤ 9) (hz : cntP (chM (rdF ft st tn kd) (chW rk mn cx cy) (chB cx cy) (chL mn cx cy)) ft = 0) : zM l yX11_choose cX11_choose 7 (some .int) ({ frames := 3, cells := 0, slots := 0, locals := 70 } : Room) [.ref k0] (dC, dI) (zTy cI cZ cF) [(om k0 a I0 J0), (oa (a 5) cI 201 st), (oa (a 6) cZ 201 tn), (oa (a 1) cI 201 kd), (oa (a 2) cI 201 rk), (oa (a 11) cI 201 mn), (oa (a 12) cI 8040 cx), (oa (a 13) cI 8040 cy), (oa (a 32) cI 8 S0), (oa (a 50) cZ 201 mk), (oa (a 37) cZ 201 mt), (oa (a 51) cI 402 jx), (oa (a 52) cI 402 jy), (oa (a 53) cI 402 gr)] sz (some (.int (-1))) (fun A t => ∃ (pc9 : Nat), ∃ (S1 : Nat → Int32), ∃ (mk1 : Nat → Int32), ∃ (mt1 : Nat → Int32), ∃ (jx1 : Nat → Int32), ∃ (jy1 : Nat → Int32), ∃ (gr1 : Nat → Int32), zPD (dC, dI) classes A [(om k0 a (upd (upd (upd I0 14 8) 15 (I0 15)) 54 (nI pc9)) J0), (oa (a 5) cI 201 st), (oa (a 6) cZ 201 tn), (oa (a 1) cI 201 kd), (oa (a 2) cI 201 rk), (oa (a 11) cI 201 mn), (oa (a 12) cI 8040 cx), (oa (a 13) cI 8040 cy), (oa (a 32) cI 8 S1), (oa (a 50) cZ 201 mk1), (oa (a 37) cZ 201 mt1), (oa (a 51) cI 402 jx1), (oa (a 52) cI 402 jy1), (oa (a 53) cI 402 gr1)] t.heap) 0 0 := by
  refine zIn (own := "ScaleShopModel") (loc := [(0, .ref k0)]) rfl rfl rfl rfl (fun p e s m below meth c hx hb hr hts hown hlocks hml hnm9 A hA hS hP hD hK hXN Q9 hQ9 ls hl => ?_)
  refine lv_aload_n hx hb dX11_choose_0 rfl (lv_at hl 0 rfl) ?_
  refine lv_iconst (v := 0) hx hb dX11_choose_1 rfl ?_
  refine va_put (D := (dC, dI)) (ci := 9) (v := .int 0) (ty := .int) (C := RX11) (T := TX11) (N := 55) hx hb hts inX11 tyX11 tyX11_ok nmX11 hown hK hP hD hS 0 rfl rfl 54 (by decide) (hts _ mw_1213) (fun _ h9 => h9) rfl (by decide +kernel) rfl rfl (Nat.le_of_ble_eq_true rfl) dX11_choose_2 (fun H locs hP hD hS => ?_)
  obtain ⟨hP, hD⟩ := zre (W2 := [(om k0 a (upd I0 54 0) J0), _, _, _, _, _, _, _, _, _, _, _, _, _]) hP hD rfl
  refine lv_iconst (v := 0) hx hb dX11_choose_5 rfl ?_
  refine lv_istore_n (lv' := [(1, .int 0), (0, .ref k0)]) hx hb dX11_choose_6 rfl hl (Nat.le_of_ble_eq_true rfl) rfl (fun ls hl => ?_)
  have hl_7 : ∀ (n9 : Nat) (q : Nat) (mk0 : Nat → Int32) (mt0 : Nat → Int32) (H : Heap) (locs : List Loc) (ls : Array Slot), ft - q < n9 → (q ≤ ft) → (∀ j, j < q → mk0 j = pI (False ∧ (chM (rdF ft st tn kd) (chW rk mn cx cy) (chB cx cy) (chL mn cx cy)) j)) → (∀ j, j < q → mt0 j = pI (¬ (rdF ft st tn kd) j ∨ False)) → va_P (dC, dI) classes [(om k0 a (upd I0 54 0) J0), (oa (a 5) cI 201 st), (oa (a 6) cZ 201 tn), (oa (a 1) cI 201 kd), (oa (a 2) cI 201 rk), (oa (a 11) cI 201 mn), (oa (a 12) cI 8040 cx), (oa (a 13) cI 8040 cy), (oa (a 32) cI 8 S0), (oa (a 50) cZ 201 mk0), (oa (a 37) cZ 201 mt0), (oa (a 51) cI 402 jx), (oa (a 52) cI 402 jy), (oa (a 53) cI 402 gr)] H → va_D A [(om k0 a (upd I0 54 0) J0), (oa (a 5) cI 201 st), (oa (a 6) cZ 201 tn), (oa (a 1) cI 201 kd), (oa (a 2) cI 201 rk), (oa (a 11) cI 201 mn), (oa (a 12) cI 8040 cx), (oa (a 13) cI 8040 cy), (oa (a 32) cI 8 S0), (oa (a 50) cZ 201 mk0), (oa (a 37) cZ 201 mt0), (oa (a 51) cI 402 jx), (oa (a 52) cI 402 jy), (oa (a 53) cI 402 gr)] → va_S A s.heap H locs → lv_has ls 7 [(1, .int (nI q)), (0, .ref k0)] → W p l e ({ frames := 3, cells := 0, slots := 0, locals := 70 } : Room) s m ([.ref k0] : List Value).toArray below meth c H locs 0 0 Q9 (F0 m 7 ls []) := by
    intro n9
    induction n9 with
    | zero => intro q mk0 mt0 H locs ls hm; exact absurd hm (Nat.not_lt_zero _)
    | succ n9 ih_7 =>
      intro q mk0 mt0 H locs ls hm hq hm0 ht0 hP hD hS hl
      refine lv_iload_n hx hb dX11_choose_7 rfl (lv_at hl 0 rfl) ?_
      refine lv_aload_n hx hb dX11_choose_8 rfl (lv_at hl 1 rfl) ?_
      refine va_get (D := (dC, dI)) (ci := 9) (v := .int (I0 0)) (C := RX11) (T := TX11) (N := 55) hx hb hts inX11 hown hK hP 0 rfl rfl 0 (Nat.le_of_ble_eq_true rfl) (hts _ mw_1159) (fun _ h9 => h9) rfl dX11_choose_9 ?_
      refine zz_i (v := nI ft) (hft) ?_
      have b9_2 : zlt (q) := show q < 2147483648 by omega
      have b9_3 : zlt (ft) := show ft < 2147483648 by omega
      refine lv_icmp_ge (tgt := 47) hx hb dX11_choose_12 rfl (fun c_1 => ?_) (fun c_1 => ?_)
      · have c_1 : ((ft : Nat) : Int) ≤ ((q : Nat) : Int) := zc_le (nI_toInt b9_3) (nI_toInt b9_2) c_1
        refine lv_iconst (v := 0) hx hb dX11_choose_47 rfl ?_
        refine lv_istore_n (lv' := [(1, .int 0), (0, .ref k0)]) hx hb dX11_choose_48 rfl hl (Nat.le_of_ble_eq_true rfl) rfl (fun ls hl => ?_)
        have hl_49 : ∀ (n9 : Nat) (r9 : Nat) (pcn : Nat) (D : Nat → Prop) (mt1 : Nat → Int32) (mk1 : Nat → Int32) (jx1 : Nat → Int32) (jy1 : Nat → Int32) (gr1 : Nat → Int32) (S1 : Nat → Int32) (H : Heap) (locs : List Loc) (ls : Array Slot), ft - r9 < n9 → (r9 ≤ ft) → (chD (rdF ft st tn kd) (chW rk mn cx cy) D) → (r9 ≤ cntP D ft) → (∀ j, j < ft → mt1 j = pI (¬ (rdF ft st tn kd) j ∨ D j)) → (∀ j, j < ft → mk1 j = pI (D j ∧ (chM (rdF ft st tn kd) (chW rk mn cx cy) (chB cx cy) (chL mn cx cy)) j)) → (chI D (chB cx cy) (chL mn cx cy) (fun i => (jx1 i, jy1 i)) gr1 pcn) → (pcn ≤ 2 * r9) → va_P (dC, dI) classes [(om k0 a (upd I0 54 (nI pcn)) J0), (oa (a 5) cI 201 st), (oa (a 6) cZ 201 tn), (oa (a 1) cI 201 kd), (oa (a 2) cI 201 rk), (oa (a 11) cI 201 mn), (oa (a 12) cI 8040 cx), (oa (a 13) cI 8040 cy), (oa (a 32) cI 8 S1), (oa (a 50) cZ 201 mk1), (oa (a 37) cZ 201 mt1), (oa (a 51) cI 402 jx1), (oa (a 52) cI 402 jy1), (oa (a 53) cI 402 gr1)] H → va_D A [(om k0 a (upd I0 54 (nI pcn)) J0), (oa (a 5) cI 201 st), (oa (a 6) cZ 201 tn), (oa (a 1) cI 201 kd), (oa (a 2) cI 201 rk), (oa (a 11) cI 201 mn), (oa (a 12) cI 8040 cx), (oa (a 13) cI 8040 cy), (oa (a 32) cI 8 S1), (oa (a 50) cZ 201 mk1), (oa (a 37) cZ 201 mt1), (oa (a 51) cI 402 jx1), (oa (a 52) cI 402 jy1), (oa (a 53) cI 402 gr1)] → va_S A s.heap H locs → lv_has ls 7 [(1, .int (nI r9)), (0, .ref k0)] → W p l e ({ frames := 3, cells := 0, slots := 0, locals := 70 } : Room) s m ([.ref k0] : List Value).toArray below meth c H locs 0 0 Q9 (F0 m 49 ls []) := by
          intro n9
          induction n9 with
          | zero => intro r9 pcn D mt1 mk1 jx1 jy1 gr1 S1 H locs ls hm; exact absurd hm (Nat.not_lt_zero _)
          | succ n9 ih_49 =>
            intro r9 pcn D mt1 mk1 jx1 jy1 gr1 S1 H locs ls hm hr9 hDD hDc hmt hmk hcI hpn hP hD hS hl
            refine lv_iload_n hx hb dX11_choose_49 rfl (lv_at hl 0 rfl) ?_
            refine lv_aload_n hx hb dX11_choose_50 rfl (lv_at hl 1 rfl) ?_
            refine va_get (D := (dC, dI)) (ci := 9) (v := .int (I0 0)) (C := RX11) (T := TX11) (N := 55) hx hb hts inX11 hown hK hP 0 rfl rfl 0 (Nat.le_of_ble_eq_true rfl) (hts _ mw_1159) (fun _ h9 => h9) rfl dX11_choose_51 ?_
            refine zz_i (v := nI ft) (hft) ?_
            have b9_5 : zlt (r9) := show r9 < 2147483648 by omega
            refine lv_icmp_ge (tgt := 259) hx hb dX11_choose_54 rfl (fun c_4 => ?_) (fun c_4 => ?_)
            · have c_4 : ((ft : Nat) : Int) ≤ ((r9 : Nat) : Int) := zc_le (nI_toInt b9_3) (nI_toInt b9_5) c_4
              have hall : ∀ j, j < ft → (rdF ft st tn kd) j → D j := (by first | exact (fun j hj _ => cntP_all (by omega) j hj) | exact fun j hj hR => (bst_no hat (by omega) (by omega) j (by omega)).resolve_left (fun h => h hR))
              have hmkF : ∀ j, j < ft → mk1 j = pI ((chM (rdF ft st tn kd) (chW rk mn cx cy) (chB cx cy) (chL mn cx cy)) j) := fun j hj => (by rw [hmk j hj]; exact zp_iff ⟨fun h => h.2, fun h => ⟨hall j hj h.1, h⟩⟩)
              refine lv_aload_n hx hb dX11_choose_259 rfl (lv_at hl 1 rfl) ?_
              refine lv_bipush (v := 9) hx hb dX11_choose_260 rfl ?_
              obtain ⟨hPc, hDc, hFc⟩ := zo_sub (wc := [_, _]) hP hD hS hA [0, 9] rfl rfl
              refine zcall (st1 := [.int (-1)]) (va_runV (As := [.int 9]) (rest := []) ⟨hx, hb, hml, hown, hts⟩ (k_M_dropMarked_r l dC dI cI cZ cF H.size k0 a (upd I0 54 (nI pcn)) J0 9 ft mk1 (chM (rdF ft st tn kd) (chW rk mn cx cy) (chB cx cy) (chL mn cx cy)) (hft) (by first | with_reducible assumption | omega) (hmkF) (hz)) (csV_219 hts rfl rfl ⟨Nat.le_of_ble_eq_true rfl, Nat.le_of_ble_eq_true rfl⟩) (zPV2 (q0 := 0) (ci := 9) hPc hDc hK hXN rfl rfl) rfl rfl hl.1 rfl (lv_room (Nat.le_of_ble_eq_true rfl)) dX11_choose_262 ⟨Nat.le_of_ble_eq_true rfl, Nat.le_of_ble_eq_true rfl⟩) hS hFc hFc rfl (fun t H locs ht hB hk1 hS => ?_)
              obtain ⟨hP1, hD1⟩ := hB
              rw [ht] at hP1
              obtain ⟨hP, hD⟩ := zn (W2 := [(om k0 a (upd (upd (upd I0 14 8) 15 (I0 15)) 54 (nI pcn)) J0), _, _, _, _, _, _, _, _, _, _, _, _, _]) hP hD hk1 hFc hP1 hD1 [0, 9] zl_259 zl_259 [0, 9] (by decide +kernel) rfl rfl rfl rfl rfl
              clear hk1 hPc hDc hFc hP1 hD1 ht
              obtain ⟨hP9, hD9⟩ := zu_sub (wc := [_, _, _, _, _, _, _, _, _, _, _, _, _, _]) hP hD [true, true, true, true, true, true, true, true, true, true, true, true, true, true] rfl rfl
              rw [hQ9]
              exact W.iret (v := (-1)) hx hb hr (fun t ht hW => ⟨⟨rfl, pcn, S1, mk1, mt1, jx1, jy1, gr1, by rw [ht]; exact hP9, hD9⟩, hS.F ht⟩) hS.2.2 dX11_choose_265
            · have c_4 : ((r9 : Nat) : Int) < ((ft : Nat) : Int) := zc_nle (nI_toInt b9_3) (nI_toInt b9_5) c_4
              refine lv_iconst (v := (-1)) hx hb dX11_choose_57 rfl ?_
              refine lv_istore_n (lv' := [(2, .int (-1)), (1, .int (nI r9)), (0, .ref k0)]) hx hb dX11_choose_58 rfl hl (Nat.le_of_ble_eq_true rfl) rfl (fun ls hl => ?_)
              refine lv_iconst (v := 0) hx hb dX11_choose_59 rfl ?_
              refine lv_istore_n (lv' := [(3, .int 0), (2, .int (-1)), (1, .int (nI r9)), (0, .ref k0)]) hx hb dX11_choose_60 rfl hl (Nat.le_of_ble_eq_true rfl) rfl (fun ls hl => ?_)
              have hl_61 : ∀ (n9 : Nat) (q : Nat) (zb : Int32) (S2 : Nat → Int32) (H : Heap) (locs : List Loc) (ls : Array Slot), ft - q < n9 → (q ≤ ft) → (bstS (chW rk mn cx cy) (fun j => ¬ (rdF ft st tn kd) j ∨ D j) q zb) → va_P (dC, dI) classes [(om k0 a (upd I0 54 (nI pcn)) J0), (oa (a 5) cI 201 st), (oa (a 6) cZ 201 tn), (oa (a 1) cI 201 kd), (oa (a 2) cI 201 rk), (oa (a 11) cI 201 mn), (oa (a 12) cI 8040 cx), (oa (a 13) cI 8040 cy), (oa (a 32) cI 8 S2), (oa (a 50) cZ 201 mk1), (oa (a 37) cZ 201 mt1), (oa (a 51) cI 402 jx1), (oa (a 52) cI 402 jy1), (oa (a 53) cI 402 gr1)] H → va_D A [(om k0 a (upd I0 54 (nI pcn)) J0), (oa (a 5) cI 201 st), (oa (a 6) cZ 201 tn), (oa (a 1) cI 201 kd), (oa (a 2) cI 201 rk), (oa (a 11) cI 201 mn), (oa (a 12) cI 8040 cx), (oa (a 13) cI 8040 cy), (oa (a 32) cI 8 S2), (oa (a 50) cZ 201 mk1), (oa (a 37) cZ 201 mt1), (oa (a 51) cI 402 jx1), (oa (a 52) cI 402 jy1), (oa (a 53) cI 402 gr1)] → va_S A s.heap H locs → lv_has ls 7 [(3, .int (nI q)), (2, .int zb), (1, .int (nI r9)), (0, .ref k0)] → W p l e ({ frames := 3, cells := 0, slots := 0, locals := 70 } : Room) s m ([.ref k0] : List Value).toArray below meth c H locs 0 0 Q9 (F0 m 61 ls []) := by
                intro n9
                induction n9 with
                | zero => intro q zb S2 H locs ls hm; exact absurd hm (Nat.not_lt_zero _)
                | succ n9 ih_61 =>
                  intro q zb S2 H locs ls hm hq hat hP hD hS hl
                  refine lv_iload_n hx hb dX11_choose_61 rfl (lv_at hl 0 rfl) ?_
                  refine lv_aload_n hx hb dX11_choose_62 rfl (lv_at hl 3 rfl) ?_
                  refine va_get (D := (dC, dI)) (ci := 9) (v := .int (I0 0)) (C := RX11) (T := TX11) (N := 55) hx hb hts inX11 hown hK hP 0 rfl rfl 0 (Nat.le_of_ble_eq_true rfl) (hts _ mw_1159) (fun _ h9 => h9) rfl dX11_choose_63 ?_
                  refine zz_i (v := nI ft) (hft) ?_
                  have b9_7 : zlt (q) := show q < 2147483648 by omega
                  refine lv_icmp_ge (tgt := 105) hx hb dX11_choose_66 rfl (fun c_6 => ?_) (fun c_6 => ?_)
                  · have c_6 : ((ft : Nat) : Int) ≤ ((q : Nat) : Int) := zc_le (nI_toInt b9_3) (nI_toInt b9_7) c_6
                    refine lv_iload_n hx hb dX11_choose_105 rfl (lv_at hl 1 rfl) ?_
                    refine lv_iconst (v := (-1)) hx hb dX11_choose_106 rfl ?_
                    refine lv_icmp_ne (tgt := 113) hx hb dX11_choose_107 rfl (fun c_8 => ?_) (fun c_8 => ?_)
                    · have c_8 : ¬ zb.toInt = (-1) := zc_ne rfl rfl c_8
                      have hqf : q = ft := (by omega)
                      rw [hqf] at hat
                      obtain ⟨b9, hz9, hbk, hbF, hbm⟩ := bst_get hat (by omega)
                      have hRq_b9 : (rdF ft st tn kd) b9 := (Classical.byContradiction fun h => hbF (Or.inl h))
                      have hw_b9 := hwf b9 hRq_b9.1
                      have hn_b9 := hw_b9.2.1
                      have hk_b9 := hrk b9 hRq_b9.1
                      have hc_b9 := chW_b hk_b9 hw_b9
                      have hDb : ¬ D b9 := fun h => hbF (Or.inr h)
                      have hds := chD_s hDD (ft := ft) (fun q h => h.1.1) hRq_b9 hDb (fun j hj hR hn => hbm j hj (fun h => h.elim (fun h => h hR) hn))
                      refine lv_aload_n hx hb dX11_choose_113 rfl (lv_at hl 3 rfl) ?_
                      refine va_get (D := (dC, dI)) (ci := 9) (v := .ref (a 37)) (C := RX11) (T := TX11) (N := 55) hx hb hts inX11 hown hK hP 0 rfl rfl 37 (Nat.le_of_ble_eq_true rfl) (hts _ mw_1196) (fun _ h9 => h9) rfl dX11_choose_114 ?_
                      refine lv_iload_n hx hb dX11_choose_117 rfl (lv_at hl 1 rfl) ?_
                      refine zz_i (v := nI b9) (hz9) ?_
                      refine lv_iconst (v := 1) hx hb dX11_choose_118 rfl ?_
                      have b9_9 : b9 < 201 := by omega
                      refine z_zast hx hb hK hP hD hS 10 1 rfl rfl (e := b9) (x := 1) rfl b9_9 (Nat.le_of_ble_eq_true rfl) (by decide) dX11_choose_119 (fun H locs hP hD hS => ?_)
                      obtain ⟨hP, hD⟩ := zre (W2 := [_, _, _, _, _, _, _, _, _, _, (oa (a 37) cZ 201 (upd mt1 b9 1)), _, _, _]) hP hD rfl
                      refine lv_aload_n hx hb dX11_choose_120 rfl (lv_at hl 3 rfl) ?_
                      refine va_get (D := (dC, dI)) (ci := 9) (v := .ref (a 53)) (C := RX11) (T := TX11) (N := 55) hx hb hts inX11 hown hK hP 0 rfl rfl 53 (Nat.le_of_ble_eq_true rfl) (hts _ mw_1212) (fun _ h9 => h9) rfl dX11_choose_121 ?_
                      refine lv_aload_n hx hb dX11_choose_124 rfl (lv_at hl 3 rfl) ?_
                      refine lv_aload_n hx hb dX11_choose_125 rfl (lv_at hl 3 rfl) ?_
                      refine va_get (D := (dC, dI)) (ci := 9) (v := .ref (a 12)) (C := RX11) (T := TX11) (N := 55) hx hb hts inX11 hown hK hP 0 rfl rfl 12 (Nat.le_of_ble_eq_true rfl) (hts _ mw_1171) (fun _ h9 => h9) rfl dX11_choose_126 ?_
                      refine lv_bipush (v := 40) hx hb dX11_choose_129 rfl ?_
                      refine lv_iload_n hx hb dX11_choose_131 rfl (lv_at hl 1 rfl) ?_
                      refine zz_i (v := nI b9) (hz9) ?_
                      refine lv_imul hx hb dX11_choose_132 ?_
                      refine zz_i (v := nI (40 * b9)) (pk_mul 40 b9) ?_
                      have b9_10 : 40 * b9 < 8040 := by omega
                      refine z_iald hx hb hK hP 6 0 rfl rfl (e := 40 * b9) rfl b9_10 (Nat.le_of_ble_eq_true rfl) dX11_choose_133 ?_
                      refine lv_aload_n hx hb dX11_choose_134 rfl (lv_at hl 3 rfl) ?_
                      refine va_get (D := (dC, dI)) (ci := 9) (v := .ref (a 13)) (C := RX11) (T := TX11) (N := 55) hx hb hts inX11 hown hK hP 0 rfl rfl 13 (Nat.le_of_ble_eq_true rfl) (hts _ mw_1172) (fun _ h9 => h9) rfl dX11_choose_135 ?_
                      refine lv_bipush (v := 40) hx hb dX11_choose_138 rfl ?_
                      refine lv_iload_n hx hb dX11_choose_140 rfl (lv_at hl 1 rfl) ?_
                      refine zz_i (v := nI b9) (hz9) ?_
                      refine lv_imul hx hb dX11_choose_141 ?_
                      refine zz_i (v := nI (40 * b9)) (pk_mul 40 b9) ?_
                      refine z_iald hx hb hK hP 7 0 rfl rfl (e := 40 * b9) rfl b9_10 (Nat.le_of_ble_eq_true rfl) dX11_choose_142 ?_
                      obtain ⟨hPc, hDc, hFc⟩ := zo_sub (wc := [_, _, _, _]) hP hD hS hA [0, 11, 12, 13] (by decide +kernel) rfl
                      refine zcalle (va_runV (As := [.int (cx (40 * b9)), .int (cy (40 * b9))]) (rest := [.ref (a 53)]) ⟨hx, hb, hml, hown, hts⟩ (k_M_placeOf_u l dC dI cI cZ cF H.size k0 a (upd I0 54 (nI pcn)) J0 (cx (40 * b9)) (cy (40 * b9)) pcn jx1 jy1 gr1 (by first | with_reducible assumption | omega)) (csV_227 hts rfl rfl ⟨Nat.le_of_ble_eq_true rfl, Nat.le_of_ble_eq_true rfl⟩) (zPV2 (q0 := 0) (ci := 9) hPc hDc hK hXN rfl rfl) rfl rfl hl.1 rfl (lv_room (Nat.le_of_ble_eq_true rfl)) dX11_choose_143 ⟨Nat.le_of_ble_eq_true rfl, Nat.le_of_ble_eq_true rfl⟩) hS hFc hFc (fun v9 t H locs ht hB hk1 hS => ?_)
                      obtain ⟨pcA, iA, jxA, jyA, grA, rfl, hA1, hA2, hA3, hA4, hP1, hD1⟩ := hB
                      refine W.eq (g2 := F0 m 146 ls [.int (nI iA), .ref (a 53)]) rfl ?_
                      rw [ht] at hP1
                      obtain ⟨hP, hD⟩ := zn (W2 := [(om k0 a (upd I0 54 (nI pcA)) J0), _, _, _, _, _, _, _, _, _, _, (oa (a 51) cI 402 jxA), (oa (a 52) cI 402 jyA), (oa (a 53) cI 402 grA)]) hP hD hk1 hFc hP1 hD1 [0, 11, 12, 13] zl_260 zl_261 [0, 11, 12, 13] (by decide +kernel) rfl rfl rfl rfl rfl
                      clear hk1 hPc hDc hFc hP1 hD1 ht
                      have b9_11 : iA < 402 := by omega
                      refine z_iald hx hb hK hP 13 0 rfl rfl (e := iA) rfl b9_11 (Nat.le_of_ble_eq_true rfl) dX11_choose_146 ?_
                      refine lv_istore_n (lv' := [(3, .int (grA iA)), (2, .int zb), (1, .int (nI r9)), (0, .ref k0)]) hx hb dX11_choose_147 rfl hl (Nat.le_of_ble_eq_true rfl) rfl (fun ls hl => ?_)
                      refine lv_bipush (v := 40) hx hb dX11_choose_148 rfl ?_
                      refine lv_iload_n hx hb dX11_choose_150 rfl (lv_at hl 1 rfl) ?_
                      refine zz_i (v := nI b9) (hz9) ?_
                      refine lv_imul hx hb dX11_choose_151 ?_
                      refine zz_i (v := nI (40 * b9)) (pk_mul 40 b9) ?_
                      refine lv_aload_n hx hb dX11_choose_152 rfl (lv_at hl 3 rfl) ?_
                      refine va_get (D := (dC, dI)) (ci := 9) (v := .ref (a 11)) (C := RX11) (T := TX11) (N := 55) hx hb hts inX11 hown hK hP 0 rfl rfl 11 (Nat.le_of_ble_eq_true rfl) (hts _ mw_1170) (fun _ h9 => h9) rfl dX11_choose_153 ?_
                      refine lv_iload_n hx hb dX11_choose_156 rfl (lv_at hl 1 rfl) ?_
                      refine zz_i (v := nI b9) (hz9) ?_
                      refine z_iald hx hb hK hP 5 0 rfl rfl (e := b9) rfl b9_9 (Nat.le_of_ble_eq_true rfl) dX11_choose_157 ?_
                      refine zz_i (v := nI (nN (mn b9))) (hw_b9.1) ?_
                      refine lv_iadd hx hb dX11_choose_158 ?_
                      refine zz_i (v := nI (40 * b9 + (nN (mn b9)))) (nI_add (40 * b9) (nN (mn b9))) ?_
                      refine lv_iconst (v := 1) hx hb dX11_choose_159 rfl ?_
                      refine lv_isub hx hb dX11_choose_160 ?_
                      refine zz_i (v := nI ((40 * b9 + (nN (mn b9))) - 1)) (pk_sub (a := 40 * b9 + (nN (mn b9))) (b := 1) (by omega)) ?_
                      refine lv_istore (lv' := [(4, .int (nI ((40 * b9 + (nN (mn b9))) - 1))), (3, .int (grA iA)), (2, .int zb), (1, .int (nI r9)), (0, .ref k0)]) hx hb dX11_choose_161 hl (Nat.le_of_ble_eq_true rfl) rfl (fun ls hl => ?_)
                      refine lv_aload_n hx hb dX11_choose_163 rfl (lv_at hl 4 rfl) ?_
                      refine va_get (D := (dC, dI)) (ci := 9) (v := .ref (a 53)) (C := RX11) (T := TX11) (N := 55) hx hb hts inX11 hown hK hP 0 rfl rfl 53 (Nat.le_of_ble_eq_true rfl) (hts _ mw_1212) (fun _ h9 => h9) rfl dX11_choose_164 ?_
                      refine lv_aload_n hx hb dX11_choose_167 rfl (lv_at hl 4 rfl) ?_
                      refine lv_aload_n hx hb dX11_choose_168 rfl (lv_at hl 4 rfl) ?_
                      refine va_get (D := (dC, dI)) (ci := 9) (v := .ref (a 12)) (C := RX11) (T := TX11) (N := 55) hx hb hts inX11 hown hK hP 0 rfl rfl 12 (Nat.le_of_ble_eq_true rfl) (hts _ mw_1171) (fun _ h9 => h9) rfl dX11_choose_169 ?_
                      refine lv_iload hx hb dX11_choose_172 (lv_at hl 0 rfl) ?_
                      have b9_12 : (40 * b9 + (nN (mn b9))) - 1 < 8040 := by omega
                      refine z_iald hx hb hK hP 6 0 rfl rfl (e := (40 * b9 + (nN (mn b9))) - 1) rfl b9_12 (Nat.le_of_ble_eq_true rfl) dX11_choose_174 ?_
                      refine lv_aload_n hx hb dX11_choose_175 rfl (lv_at hl 4 rfl) ?_
                      refine va_get (D := (dC, dI)) (ci := 9) (v := .ref (a 13)) (C := RX11) (T := TX11) (N := 55) hx hb hts inX11 hown hK hP 0 rfl rfl 13 (Nat.le_of_ble_eq_true rfl) (hts _ mw_1172) (fun _ h9 => h9) rfl dX11_choose_176 ?_
                      refine lv_iload hx hb dX11_choose_179 (lv_at hl 0 rfl) ?_
                      refine z_iald hx hb hK hP 7 0 rfl rfl (e := (40 * b9 + (nN (mn b9))) - 1) rfl b9_12 (Nat.le_of_ble_eq_true rfl) dX11_choose_181 ?_
                      obtain ⟨hPc, hDc, hFc⟩ := zo_sub (wc := [_, _, _, _]) hP hD hS hA [0, 11, 12, 13] (by decide +kernel) rfl
                      refine zcalle (va_runV (As := [.int (cx ((40 * b9 + (nN (mn b9))) - 1)), .int (cy ((40 * b9 + (nN (mn b9))) - 1))]) (rest := [.ref (a 53)]) ⟨hx, hb, hml, hown, hts⟩ (k_M_placeOf_u l dC dI cI cZ cF H.size k0 a (upd I0 54 (nI pcA)) J0 (cx ((40 * b9 + (nN (mn b9))) - 1)) (cy ((40 * b9 + (nN (mn b9))) - 1)) pcA jxA jyA grA (by first | with_reducible assumption | omega)) (csV_227 hts rfl rfl ⟨Nat.le_of_ble_eq_true rfl, Nat.le_of_ble_eq_true rfl⟩) (zPV2 (q0 := 0) (ci := 9) hPc hDc hK hXN rfl rfl) rfl rfl hl.1 rfl (lv_room (Nat.le_of_ble_eq_true rfl)) dX11_choose_182 ⟨Nat.le_of_ble_eq_true rfl, Nat.le_of_ble_eq_true rfl⟩) hS hFc hFc (fun v9 t H locs ht hB hk1 hS => ?_)
                      obtain ⟨pcB, iB, jxB, jyB, grB, rfl, hB1, hB2, hB3, hB4, hP1, hD1⟩ := hB
                      refine W.eq (g2 := F0 m 185 ls [.int (nI iB), .ref (a 53)]) rfl ?_
                      rw [ht] at hP1
                      obtain ⟨hP, hD⟩ := zn (W2 := [(om k0 a (upd I0 54 (nI pcB)) J0), _, _, _, _, _, _, _, _, _, _, (oa (a 51) cI 402 jxB), (oa (a 52) cI 402 jyB), (oa (a 53) cI 402 grB)]) hP hD hk1 hFc hP1 hD1 [0, 11, 12, 13] zl_260 zl_261 [0, 11, 12, 13] (by decide +kernel) rfl rfl rfl rfl rfl
                      clear hk1 hPc hDc hFc hP1 hD1 ht
                      have b9_13 : iB < 402 := by omega
                      refine z_iald hx hb hK hP 13 0 rfl rfl (e := iB) rfl b9_13 (Nat.le_of_ble_eq_true rfl) dX11_choose_185 ?_
                      refine lv_istore (lv' := [(5, .int (grB iB)), (4, .int (nI ((40 * b9 + (nN (mn b9))) - 1))), (3, .int (grA iA)), (2, .int zb), (1, .int (nI r9)), (0, .ref k0)]) hx hb dX11_choose_186 hl (Nat.le_of_ble_eq_true rfl) rfl (fun ls hl => ?_)
                      have hcA := chI_ad hcI (by omega) hA2 hA3 hA4
                      have hcB := chI_ad hcA (by omega) hB2 hB3 hB4
                      have hgA : grB iA = grA iA := (hB3 iA hA1.1).2.2
                      have hiA : iA < pcB := (by omega)
                      have eA : (fun i => (jxB i, jyB i)) iA = (chB cx cy) b9 := (by show (jxB iA, jyB iA) = _; rw [(hB3 iA hA1.1).1, (hB3 iA hA1.1).2.1]; exact hA2)
                      have hmq := chQ hRq_b9 hds.2 hcB hiA hB1.1 eA hB2
                      rw [hgA] at hmq
                      refine lv_aload_n hx hb dX11_choose_188 rfl (lv_at hl 5 rfl) ?_
                      refine va_get (D := (dC, dI)) (ci := 9) (v := .ref (a 50)) (C := RX11) (T := TX11) (N := 55) hx hb hts inX11 hown hK hP 0 rfl rfl 50 (Nat.le_of_ble_eq_true rfl) (hts _ mw_1209) (fun _ h9 => h9) rfl dX11_choose_189 ?_
                      refine lv_iload_n hx hb dX11_choose_192 rfl (lv_at hl 3 rfl) ?_
                      refine zz_i (v := nI b9) (hz9) ?_
                      refine lv_iload_n hx hb dX11_choose_193 rfl (lv_at hl 2 rfl) ?_
                      refine lv_iload hx hb dX11_choose_194 (lv_at hl 0 rfl) ?_
                      have hj_14 : W p l e ({ frames := 3, cells := 0, slots := 0, locals := 70 } : Room) s m ([.ref k0] : List Value).toArray below meth c H locs 0 0 Q9 (F0 m 204 ls [.int (pI ((chM (rdF ft st tn kd) (chW rk mn cx cy) (chB cx cy) (chL mn cx cy)) b9)), .int (nI b9), .ref (a 50)]) := by
                        refine z_zast hx hb hK hP hD hS 9 1 rfl rfl (e := b9) (x := pI ((chM (rdF ft st tn kd) (chW rk mn cx cy) (chB cx cy) (chL mn cx cy)) b9)) rfl b9_9 (Nat.le_of_ble_eq_true rfl) (zp_and _) dX11_choose_204 (fun H locs hP hD hS => ?_)
                        obtain ⟨hP, hD⟩ := zre (W2 := [_, _, _, _, _, _, _, _, _, (oa (a 50) cZ 201 (upd mk1 b9 (pI ((chM (rdF ft st tn kd) (chW rk mn cx cy) (chB cx cy) (chL mn cx cy)) b9)))), _, _, _, _]) hP hD rfl
                        refine lv_iconst (v := 0) hx hb dX11_choose_205 rfl ?_
                        refine lv_istore (lv' := [(6, .int 0), (5, .int (grB iB)), (4, .int (nI ((40 * b9 + (nN (mn b9))) - 1))), (3, .int (grA iA)), (2, .int zb), (1, .int (nI r9)), (0, .ref k0)]) hx hb dX11_choose_206 hl (Nat.le_of_ble_eq_true rfl) rfl (fun ls hl => ?_)
                        have hl_208 : ∀ (n9 : Nat) (k : Nat) (gr2 : Nat → Int32) (H : Heap) (locs : List Loc) (ls : Array Slot), pcB - k < n9 → (k ≤ pcB) → (∀ j, j < k → gr2 j = if grB j = grB iB then grA iA else grB j) → (∀ j, k ≤ j → gr2 j = grB j) → va_P (dC, dI) classes [(om k0 a (upd I0 54 (nI pcB)) J0), (oa (a 5) cI 201 st), (oa (a 6) cZ 201 tn), (oa (a 1) cI 201 kd), (oa (a 2) cI 201 rk), (oa (a 11) cI 201 mn), (oa (a 12) cI 8040 cx), (oa (a 13) cI 8040 cy), (oa (a 32) cI 8 S2), (oa (a 50) cZ 201 (upd mk1 b9 (pI ((chM (rdF ft st tn kd) (chW rk mn cx cy) (chB cx cy) (chL mn cx cy)) b9)))), (oa (a 37) cZ 201 (upd mt1 b9 1)), (oa (a 51) cI 402 jxB), (oa (a 52) cI 402 jyB), (oa (a 53) cI 402 gr2)] H → va_D A [(om k0 a (upd I0 54 (nI pcB)) J0), (oa (a 5) cI 201 st), (oa (a 6) cZ 201 tn), (oa (a 1) cI 201 kd), (oa (a 2) cI 201 rk), (oa (a 11) cI 201 mn), (oa (a 12) cI 8040 cx), (oa (a 13) cI 8040 cy), (oa (a 32) cI 8 S2), (oa (a 50) cZ 201 (upd mk1 b9 (pI ((chM (rdF ft st tn kd) (chW rk mn cx cy) (chB cx cy) (chL mn cx cy)) b9)))), (oa (a 37) cZ 201 (upd mt1 b9 1)), (oa (a 51) cI 402 jxB), (oa (a 52) cI 402 jyB), (oa (a 53) cI 402 gr2)] → va_S A s.heap H locs → lv_has ls 7 [(6, .int (nI k)), (5, .int (grB iB)), (4, .int (nI ((40 * b9 + (nN (mn b9))) - 1))), (3, .int (grA iA)), (2, .int zb), (1, .int (nI r9)), (0, .ref k0)] → W p l e ({ frames := 3, cells := 0, slots := 0, locals := 70 } : Room) s m ([.ref k0] : List Value).toArray below meth c H locs 0 0 Q9 (F0 m 208 ls []) := by
                          intro n9
                          induction n9 with
                          | zero => intro k gr2 H locs ls hm; exact absurd hm (Nat.not_lt_zero _)
                          | succ n9 ih_208 =>
                            intro k gr2 H locs ls hm hk9 hg1 hg2 hP hD hS hl
                            refine lv_iload hx hb dX11_choose_208 (lv_at hl 0 rfl) ?_
                            refine lv_aload_n hx hb dX11_choose_210 rfl (lv_at hl 6 rfl) ?_
                            refine va_get (D := (dC, dI)) (ci := 9) (v := .int (nI pcB)) (C := RX11) (T := TX11) (N := 55) hx hb hts inX11 hown hK hP 0 rfl rfl 54 (Nat.le_of_ble_eq_true rfl) (hts _ mw_1213) (fun _ h9 => h9) rfl dX11_choose_211 ?_
                            have b9_16 : zlt (k) := show k < 2147483648 by omega
                            have b9_17 : zlt (pcB) := show pcB < 2147483648 by omega
                            refine lv_icmp_ge (tgt := 253) hx hb dX11_choose_214 rfl (fun c_15 => ?_) (fun c_15 => ?_)
                            · have c_15 : ((pcB : Nat) : Int) ≤ ((k : Nat) : Int) := zc_le (nI_toInt b9_17) (nI_toInt b9_16) c_15
                              refine lv_iinc (v := nI (r9 + 1)) (lv' := [(1, .int (nI (r9 + 1))), (6, .int (nI k)), (5, .int (grB iB)), (4, .int (nI ((40 * b9 + (nN (mn b9))) - 1))), (3, .int (grA iA)), (2, .int zb), (0, .ref k0)]) hx hb dX11_choose_253 hl (k := 5) rfl (nI_add r9 1) (Nat.le_of_ble_eq_true rfl) rfl (fun ls hl => ?_)
                              refine lv_goto (tgt := 49) hx hb dX11_choose_256 rfl ?_
                              exact ih_49 (r9 + 1) pcB (fun j => D j ∨ j = b9) (upd mt1 b9 1) (upd mk1 b9 (pI ((chM (rdF ft st tn kd) (chW rk mn cx cy) (chB cx cy) (chL mn cx cy)) b9))) jxB jyB gr2 S2 H locs ls (by first | with_reducible assumption | omega) (by first | with_reducible assumption | omega) (hds.1) (Nat.lt_of_le_of_lt hDc (cntP_lt (fun j h => Or.inl h) hbk (Or.inr rfl) hDb)) (chT_s hmt) (chK_s hmk) (chI_un hcB hiA hB1.1 eA hB2 (fun k9 h9 => by rw [hgA]; exact hg1 k9 (by first | with_reducible assumption | omega))) (by first | with_reducible assumption | omega) hP hD hS (lv_sub hl [0, 6] rfl)
                            · have c_15 : ((k : Nat) : Int) < ((pcB : Nat) : Int) := zc_nle (nI_toInt b9_17) (nI_toInt b9_16) c_15
                              refine lv_aload_n hx hb dX11_choose_217 rfl (lv_at hl 6 rfl) ?_
                              refine va_get (D := (dC, dI)) (ci := 9) (v := .ref (a 53)) (C := RX11) (T := TX11) (N := 55) hx hb hts inX11 hown hK hP 0 rfl rfl 53 (Nat.le_of_ble_eq_true rfl) (hts _ mw_1212) (fun _ h9 => h9) rfl dX11_choose_218 ?_
                              refine lv_iload hx hb dX11_choose_221 (lv_at hl 0 rfl) ?_
                              refine lv_aload_n hx hb dX11_choose_223 rfl (lv_at hl 6 rfl) ?_
                              refine va_get (D := (dC, dI)) (ci := 9) (v := .ref (a 53)) (C := RX11) (T := TX11) (N := 55) hx hb hts inX11 hown hK hP 0 rfl rfl 53 (Nat.le_of_ble_eq_true rfl) (hts _ mw_1212) (fun _ h9 => h9) rfl dX11_choose_224 ?_
                              refine lv_iload hx hb dX11_choose_227 (lv_at hl 0 rfl) ?_
                              have b9_18 : k < 402 := by omega
                              refine z_iald hx hb hK hP 13 0 rfl rfl (e := k) rfl b9_18 (Nat.le_of_ble_eq_true rfl) dX11_choose_229 ?_
                              refine lv_iload hx hb dX11_choose_230 (lv_at hl 1 rfl) ?_
                              refine lv_icmp_ne (tgt := 239) hx hb dX11_choose_232 rfl (fun c_19 => ?_) (fun c_19 => ?_)
                              · have c_19 : ¬ (gr2 k).toInt = (grB iB).toInt := zc_ne rfl rfl c_19
                                refine lv_aload_n hx hb dX11_choose_239 rfl (lv_at hl 6 rfl) ?_
                                refine va_get (D := (dC, dI)) (ci := 9) (v := .ref (a 53)) (C := RX11) (T := TX11) (N := 55) hx hb hts inX11 hown hK hP 0 rfl rfl 53 (Nat.le_of_ble_eq_true rfl) (hts _ mw_1212) (fun _ h9 => h9) rfl dX11_choose_240 ?_
                                refine lv_iload hx hb dX11_choose_243 (lv_at hl 0 rfl) ?_
                                refine z_iald hx hb hK hP 13 0 rfl rfl (e := k) rfl b9_18 (Nat.le_of_ble_eq_true rfl) dX11_choose_245 ?_
                                refine z_iast hx hb hK hP hD hS 13 0 rfl rfl (e := k) (x := gr2 k) rfl b9_18 (Nat.le_of_ble_eq_true rfl) dX11_choose_246 (fun H locs hP hD hS => ?_)
                                obtain ⟨hP, hD⟩ := zre (W2 := [_, _, _, _, _, _, _, _, _, _, _, _, _, (oa (a 53) cI 402 (upd gr2 k (gr2 k)))]) hP hD rfl
                                refine lv_iinc (v := nI (k + 1)) (lv' := [(6, .int (nI (k + 1))), (5, .int (grB iB)), (4, .int (nI ((40 * b9 + (nN (mn b9))) - 1))), (3, .int (grA iA)), (2, .int zb), (1, .int (nI r9)), (0, .ref k0)]) hx hb dX11_choose_247 hl (k := 0) rfl (nI_add k 1) (Nat.le_of_ble_eq_true rfl) rfl (fun ls hl => ?_)
                                refine lv_goto (tgt := 208) hx hb dX11_choose_250 rfl ?_
                                exact ih_208 (k + 1) (upd gr2 k (gr2 k)) H locs ls (by first | with_reducible assumption | omega) (by first | with_reducible assumption | omega) (chG_s hg1 (hg2 k (Nat.le_refl _)) (by first | exact Or.inl ⟨by omega, rfl⟩ | exact Or.inr ⟨by omega, rfl⟩)) (fun j hj => by rw [show upd gr2 k _ j = gr2 j from if_neg (by first | with_reducible assumption | omega)]; exact hg2 j (by first | with_reducible assumption | omega)) hP hD hS (lv_sub hl [0, 1, 2, 3, 4, 5, 6] rfl)
                              · have c_19 : (gr2 k).toInt = (grB iB).toInt := zc_eq rfl rfl c_19
                                refine lv_iload_n hx hb dX11_choose_235 rfl (lv_at hl 3 rfl) ?_
                                refine lv_goto (tgt := 246) hx hb dX11_choose_236 rfl ?_
                                refine z_iast hx hb hK hP hD hS 13 0 rfl rfl (e := k) (x := grA iA) rfl b9_18 (Nat.le_of_ble_eq_true rfl) dX11_choose_246 (fun H locs hP hD hS => ?_)
                                obtain ⟨hP, hD⟩ := zre (W2 := [_, _, _, _, _, _, _, _, _, _, _, _, _, (oa (a 53) cI 402 (upd gr2 k (grA iA)))]) hP hD rfl
                                refine lv_iinc (v := nI (k + 1)) (lv' := [(6, .int (nI (k + 1))), (5, .int (grB iB)), (4, .int (nI ((40 * b9 + (nN (mn b9))) - 1))), (3, .int (grA iA)), (2, .int zb), (1, .int (nI r9)), (0, .ref k0)]) hx hb dX11_choose_247 hl (k := 0) rfl (nI_add k 1) (Nat.le_of_ble_eq_true rfl) rfl (fun ls hl => ?_)
                                refine lv_goto (tgt := 208) hx hb dX11_choose_250 rfl ?_
                                exact ih_208 (k + 1) (upd gr2 k (grA iA)) H locs ls (by first | with_reducible assumption | omega) (by first | with_reducible assumption | omega) (chG_s hg1 (hg2 k (Nat.le_refl _)) (by first | exact Or.inl ⟨by omega, rfl⟩ | exact Or.inr ⟨by omega, rfl⟩)) (fun j hj => by rw [show upd gr2 k _ j = gr2 j from if_neg (by first | with_reducible assumption | omega)]; exact hg2 j (by first | with_reducible assumption | omega)) hP hD hS (lv_sub hl [0, 1, 2, 3, 4, 5, 6] rfl)
                        exact hl_208 _ 0 grB H locs ls (Nat.lt_succ_self _) (by first | with_reducible assumption | omega) (by intro j hj; omega) (fun j hj => rfl) hP hD hS (lv_sub hl [0, 1, 2, 3, 4, 5, 6] rfl)
                      refine lv_icmp_ne (tgt := 203) hx hb dX11_choose_196 rfl (fun c_20 => ?_) (fun c_20 => ?_)
                      · have c_20 : ¬ (grA iA).toInt = (grB iB).toInt := zc_ne rfl rfl c_20
                        refine lv_iconst (v := 0) hx hb dX11_choose_203 rfl ?_
                        refine zz_i (v := pI ((chM (rdF ft st tn kd) (chW rk mn cx cy) (chB cx cy) (chL mn cx cy)) b9)) (by first | exact (zp_t (hmq.mpr (by omega))).symm | exact (zp_f (fun h => absurd (hmq.mp h) (by omega))).symm) ?_
                        exact hj_14 
                      · have c_20 : (grA iA).toInt = (grB iB).toInt := zc_eq rfl rfl c_20
                        refine lv_iconst (v := 1) hx hb dX11_choose_199 rfl ?_
                        refine lv_goto (tgt := 204) hx hb dX11_choose_200 rfl ?_
                        refine zz_i (v := pI ((chM (rdF ft st tn kd) (chW rk mn cx cy) (chB cx cy) (chL mn cx cy)) b9)) (by first | exact (zp_t (hmq.mpr (by omega))).symm | exact (zp_f (fun h => absurd (hmq.mp h) (by omega))).symm) ?_
                        exact hj_14 
                    · have c_8 : zb.toInt = (-1) := zc_eq rfl rfl c_8
                      refine lv_goto (tgt := 259) hx hb dX11_choose_110 rfl ?_
                      have hall : ∀ j, j < ft → (rdF ft st tn kd) j → D j := (by first | exact (fun j hj _ => cntP_all (by omega) j hj) | exact fun j hj hR => (bst_no hat (by omega) (by omega) j (by omega)).resolve_left (fun h => h hR))
                      have hmkF : ∀ j, j < ft → mk1 j = pI ((chM (rdF ft st tn kd) (chW rk mn cx cy) (chB cx cy) (chL mn cx cy)) j) := fun j hj => (by rw [hmk j hj]; exact zp_iff ⟨fun h => h.2, fun h => ⟨hall j hj h.1, h⟩⟩)
                      refine lv_aload_n hx hb dX11_choose_259 rfl (lv_at hl 3 rfl) ?_
                      refine lv_bipush (v := 9) hx hb dX11_choose_260 rfl ?_
                      obtain ⟨hPc, hDc, hFc⟩ := zo_sub (wc := [_, _]) hP hD hS hA [0, 9] rfl rfl
                      refine zcall (st1 := [.int (-1)]) (va_runV (As := [.int 9]) (rest := []) ⟨hx, hb, hml, hown, hts⟩ (k_M_dropMarked_r l dC dI cI cZ cF H.size k0 a (upd I0 54 (nI pcn)) J0 9 ft mk1 (chM (rdF ft st tn kd) (chW rk mn cx cy) (chB cx cy) (chL mn cx cy)) (hft) (by first | with_reducible assumption | omega) (hmkF) (hz)) (csV_219 hts rfl rfl ⟨Nat.le_of_ble_eq_true rfl, Nat.le_of_ble_eq_true rfl⟩) (zPV2 (q0 := 0) (ci := 9) hPc hDc hK hXN rfl rfl) rfl rfl hl.1 rfl (lv_room (Nat.le_of_ble_eq_true rfl)) dX11_choose_262 ⟨Nat.le_of_ble_eq_true rfl, Nat.le_of_ble_eq_true rfl⟩) hS hFc hFc rfl (fun t H locs ht hB hk1 hS => ?_)
                      obtain ⟨hP1, hD1⟩ := hB
                      rw [ht] at hP1
                      obtain ⟨hP, hD⟩ := zn (W2 := [(om k0 a (upd (upd (upd I0 14 8) 15 (I0 15)) 54 (nI pcn)) J0), _, _, _, _, _, _, _, _, _, _, _, _, _]) hP hD hk1 hFc hP1 hD1 [0, 9] zl_259 zl_259 [0, 9] (by decide +kernel) rfl rfl rfl rfl rfl
                      clear hk1 hPc hDc hFc hP1 hD1 ht
                      obtain ⟨hP9, hD9⟩ := zu_sub (wc := [_, _, _, _, _, _, _, _, _, _, _, _, _, _]) hP hD [true, true, true, true, true, true, true, true, true, true, true, true, true, true] rfl rfl
                      rw [hQ9]
                      exact W.iret (v := (-1)) hx hb hr (fun t ht hW => ⟨⟨rfl, pcn, S2, mk1, mt1, jx1, jy1, gr1, by rw [ht]; exact hP9, hD9⟩, hS.F ht⟩) hS.2.2 dX11_choose_265
                  · have c_6 : ((q : Nat) : Int) < ((ft : Nat) : Int) := zc_nle (nI_toInt b9_3) (nI_toInt b9_7) c_6
                    refine lv_aload_n hx hb dX11_choose_69 rfl (lv_at hl 3 rfl) ?_
                    refine va_get (D := (dC, dI)) (ci := 9) (v := .ref (a 37)) (C := RX11) (T := TX11) (N := 55) hx hb hts inX11 hown hK hP 0 rfl rfl 37 (Nat.le_of_ble_eq_true rfl) (hts _ mw_1196) (fun _ h9 => h9) rfl dX11_choose_70 ?_
                    refine lv_iload_n hx hb dX11_choose_73 rfl (lv_at hl 0 rfl) ?_
                    have b9_21 : q < 201 := by omega
                    refine z_zald hx hb hK hP 10 1 rfl rfl (e := q) rfl b9_21 (Nat.le_of_ble_eq_true rfl) dX11_choose_74 ?_
                    refine zz_i (v := pI (¬ (rdF ft st tn kd) q ∨ D q)) (hmt q (by omega)) ?_
                    refine lv_if_ne (tgt := 99) hx hb dX11_choose_75 rfl (fun c_22 => ?_) (fun c_22 => ?_)
                    · have c_22 : ¬ (rdF ft st tn kd) q ∨ D q := zp_1 c_22
                      refine lv_iinc (v := nI (q + 1)) (lv' := [(3, .int (nI (q + 1))), (2, .int zb), (1, .int (nI r9)), (0, .ref k0)]) hx hb dX11_choose_99 hl (k := 0) rfl (nI_add q 1) (Nat.le_of_ble_eq_true rfl) rfl (fun ls hl => ?_)
                      refine lv_goto (tgt := 61) hx hb dX11_choose_102 rfl ?_
                      exact ih_61 (q + 1) zb S2 H locs ls (by first | with_reducible assumption | omega) (by first | with_reducible assumption | omega) (by first | exact bst_f hat (by first | with_reducible assumption | assumption) | exact bst_n hat (by first | with_reducible assumption | omega) (by first | with_reducible assumption | omega) (by first | with_reducible assumption | assumption) | exact bst_l hz9 hbk hbF hbm (by first | with_reducible assumption | assumption) (by first | with_reducible assumption | omega) | exact bst_g hz9 hbk hbF hbm (by first | with_reducible assumption | omega)) hP hD hS (lv_sub hl [0, 1, 2, 3] rfl)
                    · have c_22 : ¬ (¬ (rdF ft st tn kd) q ∨ D q) := zp_0 c_22
                      refine lv_iload_n hx hb dX11_choose_78 rfl (lv_at hl 1 rfl) ?_
                      refine lv_iconst (v := (-1)) hx hb dX11_choose_79 rfl ?_
                      refine lv_icmp_eq (tgt := 97) hx hb dX11_choose_80 rfl (fun c_23 => ?_) (fun c_23 => ?_)
                      · have c_23 : zb.toInt = (-1) := zc_eq rfl rfl c_23
                        refine lv_iload_n hx hb dX11_choose_97 rfl (lv_at hl 0 rfl) ?_
                        refine lv_istore_n (lv' := [(2, .int (nI q)), (3, .int (nI q)), (1, .int (nI r9)), (0, .ref k0)]) hx hb dX11_choose_98 rfl hl (Nat.le_of_ble_eq_true rfl) rfl (fun ls hl => ?_)
                        refine lv_iinc (v := nI (q + 1)) (lv' := [(3, .int (nI (q + 1))), (2, .int (nI q)), (1, .int (nI r9)), (0, .ref k0)]) hx hb dX11_choose_99 hl (k := 1) rfl (nI_add q 1) (Nat.le_of_ble_eq_true rfl) rfl (fun ls hl => ?_)
                        refine lv_goto (tgt := 61) hx hb dX11_choose_102 rfl ?_
                        exact ih_61 (q + 1) (nI q) S2 H locs ls (by first | with_reducible assumption | omega) (by first | with_reducible assumption | omega) (by first | exact bst_f hat (by first | with_reducible assumption | assumption) | exact bst_n hat (by first | with_reducible assumption | omega) (by first | with_reducible assumption | omega) (by first | with_reducible assumption | assumption) | exact bst_l hz9 hbk hbF hbm (by first | with_reducible assumption | assumption) (by first | with_reducible assumption | omega) | exact bst_g hz9 hbk hbF hbm (by first | with_reducible assumption | omega)) hP hD hS (lv_sub hl [0, 1, 2, 3] rfl)
                      · have c_23 : ¬ zb.toInt = (-1) := zc_ne rfl rfl c_23
                        have hRq_q : (rdF ft st tn kd) q := (Classical.byContradiction fun h => (show ¬ (¬ (rdF ft st tn kd) q ∨ D q) by assumption) (Or.inl h))
                        have hw_q := hwf q hRq_q.1
                        have hn_q := hw_q.2.1
                        have hk_q := hrk q hRq_q.1
                        have hc_q := chW_b hk_q hw_q
                        refine lv_aload_n hx hb dX11_choose_83 rfl (lv_at hl 3 rfl) ?_
                        refine lv_iload_n hx hb dX11_choose_84 rfl (lv_at hl 0 rfl) ?_
                        obtain ⟨hPc, hDc, hFc⟩ := zo_sub (wc := [_, _, _, _, _, _]) hP hD hS hA [0, 4, 5, 6, 7, 8] (by decide +kernel) rfl
                        refine zcall (st1 := [.long (jI (((rk q).toInt + 1) * ((ln2 (cF40 cx q) (cF40 cy q) ((nN (mn q)) - 1) : Nat) : Int)))]) (va_runV (As := [.int (nI q)]) (rest := []) ⟨hx, hb, hml, hown, hts⟩ (k_M_weight l dC dI cI cZ cF H.size k0 a (upd I0 54 (nI pcn)) J0 q (nN (mn q)) rk mn cx cy S2 (by first | with_reducible assumption | omega) (hw_q.1) (hw_q.2.1) (hw_q.2.2) (hk_q)) (csV_228 hts rfl rfl ⟨Nat.le_of_ble_eq_true rfl, Nat.le_of_ble_eq_true rfl⟩) (zPV2 (q0 := 0) (ci := 9) hPc hDc hK hXN rfl rfl) rfl rfl hl.1 rfl (lv_room (Nat.le_of_ble_eq_true rfl)) dX11_choose_85 ⟨Nat.le_of_ble_eq_true rfl, Nat.le_of_ble_eq_true rfl⟩) hS hFc hFc rfl (fun t H locs ht hB hk1 hS => ?_)
                        obtain ⟨S3, hP1, hD1⟩ := hB
                        rw [ht] at hP1
                        obtain ⟨hP, hD⟩ := zn (W2 := [_, _, _, _, _, _, _, _, (oa (a 32) cI 8 S3), _, _, _, _, _]) hP hD hk1 hFc hP1 hD1 [0, 4, 5, 6, 7, 8] zl_262 zl_262 [0, 4, 5, 6, 7, 8] (by decide +kernel) rfl rfl rfl rfl rfl
                        clear hk1 hPc hDc hFc hP1 hD1 ht
                        refine zz_l (v := jI ((chW rk mn cx cy q : Nat) : Int)) (chW_e hk_q) ?_
                        refine lv_aload_n hx hb dX11_choose_88 rfl (lv_at hl 3 rfl) ?_
                        obtain ⟨b9, hz9, hbk, hbF, hbm⟩ := bst_get hat (by omega)
                        have hRq_b9 : (rdF ft st tn kd) b9 := (Classical.byContradiction fun h => hbF (Or.inl h))
                        have hw_b9 := hwf b9 hRq_b9.1
                        have hn_b9 := hw_b9.2.1
                        have hk_b9 := hrk b9 hRq_b9.1
                        have hc_b9 := chW_b hk_b9 hw_b9
                        refine lv_iload_n hx hb dX11_choose_89 rfl (lv_at hl 1 rfl) ?_
                        refine zz_i (v := nI b9) (hz9) ?_
                        obtain ⟨hPc, hDc, hFc⟩ := zo_sub (wc := [_, _, _, _, _, _]) hP hD hS hA [0, 4, 5, 6, 7, 8] (by decide +kernel) rfl
                        refine zcall (st1 := [.long (jI (((rk b9).toInt + 1) * ((ln2 (cF40 cx b9) (cF40 cy b9) ((nN (mn b9)) - 1) : Nat) : Int))), .long (jI ((chW rk mn cx cy q : Nat) : Int))]) (va_runV (As := [.int (nI b9)]) (rest := [.long (jI ((chW rk mn cx cy q : Nat) : Int))]) ⟨hx, hb, hml, hown, hts⟩ (k_M_weight l dC dI cI cZ cF H.size k0 a (upd I0 54 (nI pcn)) J0 b9 (nN (mn b9)) rk mn cx cy S3 (by first | with_reducible assumption | omega) (hw_b9.1) (hw_b9.2.1) (hw_b9.2.2) (hk_b9)) (csV_228 hts rfl rfl ⟨Nat.le_of_ble_eq_true rfl, Nat.le_of_ble_eq_true rfl⟩) (zPV2 (q0 := 0) (ci := 9) hPc hDc hK hXN rfl rfl) rfl rfl hl.1 rfl (lv_room (Nat.le_of_ble_eq_true rfl)) dX11_choose_90 ⟨Nat.le_of_ble_eq_true rfl, Nat.le_of_ble_eq_true rfl⟩) hS hFc hFc rfl (fun t H locs ht hB hk1 hS => ?_)
                        obtain ⟨S4, hP1, hD1⟩ := hB
                        rw [ht] at hP1
                        obtain ⟨hP, hD⟩ := zn (W2 := [_, _, _, _, _, _, _, _, (oa (a 32) cI 8 S4), _, _, _, _, _]) hP hD hk1 hFc hP1 hD1 [0, 4, 5, 6, 7, 8] zl_262 zl_262 [0, 4, 5, 6, 7, 8] (by decide +kernel) rfl rfl rfl rfl rfl
                        clear hk1 hPc hDc hFc hP1 hD1 ht
                        refine zz_l (v := jI ((chW rk mn cx cy b9 : Nat) : Int)) (chW_e hk_b9) ?_
                        refine W.lcmp hx hb dX11_choose_93 ?_
                        refine lv_if_ge (tgt := 99) hx hb dX11_choose_94 rfl (fun c_24 => ?_) (fun c_24 => ?_)
                        · have c_24 : ((chW rk mn cx cy b9 : Nat) : Int) ≤ ((chW rk mn cx cy q : Nat) : Int) := zl_ge (jI_toInt (by omega)) (jI_toInt (by omega)) c_24
                          refine lv_iinc (v := nI (q + 1)) (lv' := [(3, .int (nI (q + 1))), (2, .int zb), (1, .int (nI r9)), (0, .ref k0)]) hx hb dX11_choose_99 hl (k := 0) rfl (nI_add q 1) (Nat.le_of_ble_eq_true rfl) rfl (fun ls hl => ?_)
                          refine lv_goto (tgt := 61) hx hb dX11_choose_102 rfl ?_
                          exact ih_61 (q + 1) zb S4 H locs ls (by first | with_reducible assumption | omega) (by first | with_reducible assumption | omega) (by first | exact bst_f hat (by first | with_reducible assumption | assumption) | exact bst_n hat (by first | with_reducible assumption | omega) (by first | with_reducible assumption | omega) (by first | with_reducible assumption | assumption) | exact bst_l hz9 hbk hbF hbm (by first | with_reducible assumption | assumption) (by first | with_reducible assumption | omega) | exact bst_g hz9 hbk hbF hbm (by first | with_reducible assumption | omega)) hP hD hS (lv_sub hl [0, 1, 2, 3] rfl)
                        · have c_24 : ((chW rk mn cx cy q : Nat) : Int) < ((chW rk mn cx cy b9 : Nat) : Int) := zl_nge (jI_toInt (by omega)) (jI_toInt (by omega)) c_24
                          refine lv_iload_n hx hb dX11_choose_97 rfl (lv_at hl 0 rfl) ?_
                          refine lv_istore_n (lv' := [(2, .int (nI q)), (3, .int (nI q)), (1, .int (nI r9)), (0, .ref k0)]) hx hb dX11_choose_98 rfl hl (Nat.le_of_ble_eq_true rfl) rfl (fun ls hl => ?_)
                          refine lv_iinc (v := nI (q + 1)) (lv' := [(3, .int (nI (q + 1))), (2, .int (nI q)), (1, .int (nI r9)), (0, .ref k0)]) hx hb dX11_choose_99 hl (k := 1) rfl (nI_add q 1) (Nat.le_of_ble_eq_true rfl) rfl (fun ls hl => ?_)
                          refine lv_goto (tgt := 61) hx hb dX11_choose_102 rfl ?_
                          exact ih_61 (q + 1) (nI q) S4 H locs ls (by first | with_reducible assumption | omega) (by first | with_reducible assumption | omega) (by first | exact bst_f hat (by first | with_reducible assumption | assumption) | exact bst_n hat (by first | with_reducible assumption | omega) (by first | with_reducible assumption | omega) (by first | with_reducible assumption | assumption) | exact bst_l hz9 hbk hbF hbm (by first | with_reducible assumption | assumption) (by first | with_reducible assumption | omega) | exact bst_g hz9 hbk hbF hbm (by first | with_reducible assumption | omega)) hP hD hS (lv_sub hl [0, 1, 2, 3] rfl)
              exact hl_61 _ 0 (-1) S1 H locs ls (Nat.lt_succ_self _) (by first | with_reducible assumption | omega) (bst_0 _ _) hP hD hS (lv_sub hl [0, 1, 2, 3] rfl)
        exact hl_49 _ 0 0 (fun _ => False) mt0 mk0 jx jy gr S0 H locs ls (Nat.lt_succ_self _) (by first | with_reducible assumption | omega) (chD_0 _ _) (Nat.zero_le _) (fun j hj => ht0 j (by first | with_reducible assumption | omega)) (fun j hj => hm0 j (by first | with_reducible assumption | omega)) (chI_0 _ _ _ _) (by first | with_reducible assumption | omega) hP hD hS (lv_sub hl [0, 1] rfl)
      · have c_1 : ((q : Nat) : Int) < ((ft : Nat) : Int) := zc_nle (nI_toInt b9_3) (nI_toInt b9_2) c_1
        refine lv_aload_n hx hb dX11_choose_15 rfl (lv_at hl 1 rfl) ?_
        refine va_get (D := (dC, dI)) (ci := 9) (v := .ref (a 50)) (C := RX11) (T := TX11) (N := 55) hx hb hts inX11 hown hK hP 0 rfl rfl 50 (Nat.le_of_ble_eq_true rfl) (hts _ mw_1209) (fun _ h9 => h9) rfl dX11_choose_16 ?_
        refine lv_iload_n hx hb dX11_choose_19 rfl (lv_at hl 0 rfl) ?_
        refine lv_iconst (v := 0) hx hb dX11_choose_20 rfl ?_
        have b9_25 : q < 201 := by omega
        refine z_zast hx hb hK hP hD hS 9 1 rfl rfl (e := q) (x := 0) rfl b9_25 (Nat.le_of_ble_eq_true rfl) (by decide) dX11_choose_21 (fun H locs hP hD hS => ?_)
        obtain ⟨hP, hD⟩ := zre (W2 := [_, _, _, _, _, _, _, _, _, (oa (a 50) cZ 201 (upd mk0 q 0)), _, _, _, _]) hP hD rfl
        refine lv_aload_n hx hb dX11_choose_22 rfl (lv_at hl 1 rfl) ?_
        refine va_get (D := (dC, dI)) (ci := 9) (v := .ref (a 37)) (C := RX11) (T := TX11) (N := 55) hx hb hts inX11 hown hK hP 0 rfl rfl 37 (Nat.le_of_ble_eq_true rfl) (hts _ mw_1196) (fun _ h9 => h9) rfl dX11_choose_23 ?_
        refine lv_iload_n hx hb dX11_choose_26 rfl (lv_at hl 0 rfl) ?_
        refine lv_aload_n hx hb dX11_choose_27 rfl (lv_at hl 1 rfl) ?_
        refine lv_iload_n hx hb dX11_choose_28 rfl (lv_at hl 0 rfl) ?_
        obtain ⟨hPc, hDc, hFc, hI1⟩ := zi_sub (wc := [_, _, _, _]) hP hD hS hA [0, 1, 2, 3] (by decide +kernel) rfl
        refine zcall (st1 := [.int (pI (lvF ft st tn q ∧ (kd q).toInt = 3)), .int (nI q), .ref (a 37)]) (va_runV (As := [.int (nI q)]) (rest := [.int (nI q), .ref (a 37)]) ⟨hx, hb, hml, hown, hts⟩ (k_M_isRoad l dC dI cI cZ cF H.size k0 a (upd I0 54 0) J0 q ft st tn kd (by first | with_reducible assumption | assumption) (by first | with_reducible assumption | omega) (by first | with_reducible assumption | omega)) (csV_229 hts rfl rfl ⟨Nat.le_of_ble_eq_true rfl, Nat.le_of_ble_eq_true rfl⟩) (zPV2 (q0 := 0) (ci := 9) hPc hDc hK hXN rfl rfl) rfl rfl hl.1 rfl (lv_room (Nat.le_of_ble_eq_true rfl)) dX11_choose_29 ⟨Nat.le_of_ble_eq_true rfl, Nat.le_of_ble_eq_true rfl⟩) hS hFc hFc rfl (fun t H locs ht hB hk1 hS => ?_)
        obtain ⟨hP1, hD1⟩ := hB
        rw [ht] at hP1
        replace hP := z0 hP hD hk1 hP1 hI1
        clear hk1 hPc hDc hFc hP1 hD1 ht hI1
        have hj_26 : W p l e ({ frames := 3, cells := 0, slots := 0, locals := 70 } : Room) s m ([.ref k0] : List Value).toArray below meth c H locs 0 0 Q9 (F0 m 40 ls [.int (pI (¬ (rdF ft st tn kd) q)), .int (nI q), .ref (a 37)]) := by
          refine z_zast hx hb hK hP hD hS 10 1 rfl rfl (e := q) (x := pI (¬ (rdF ft st tn kd) q)) rfl b9_25 (Nat.le_of_ble_eq_true rfl) (zp_and _) dX11_choose_40 (fun H locs hP hD hS => ?_)
          obtain ⟨hP, hD⟩ := zre (W2 := [_, _, _, _, _, _, _, _, _, _, (oa (a 37) cZ 201 (upd mt0 q (pI (¬ (rdF ft st tn kd) q)))), _, _, _]) hP hD rfl
          refine lv_iinc (v := nI (q + 1)) (lv' := [(1, .int (nI (q + 1))), (0, .ref k0)]) hx hb dX11_choose_41 hl (k := 0) rfl (nI_add q 1) (Nat.le_of_ble_eq_true rfl) rfl (fun ls hl => ?_)
          refine lv_goto (tgt := 7) hx hb dX11_choose_44 rfl ?_
          exact ih_7 (q + 1) (upd mk0 q 0) (upd mt0 q (pI (¬ (rdF ft st tn kd) q))) H locs ls (by first | with_reducible assumption | omega) (by first | with_reducible assumption | omega) (by intro j hj; rcases Nat.lt_or_ge j q with h | h; (rw [show upd mk0 q 0 j = mk0 j from if_neg (by first | with_reducible assumption | omega)]; exact hm0 j h); (rw [show j = q by omega, up_at]; exact (zp_f (fun h => h.1)).symm)) (by intro j hj; rcases Nat.lt_or_ge j q with h | h; (rw [show upd mt0 q _ j = mt0 j from if_neg (by first | with_reducible assumption | omega)]; exact ht0 j h); (rw [show j = q by omega, up_at]; exact zp_iff ⟨Or.inl, fun h => h.resolve_right id⟩)) hP hD hS (lv_sub hl [0, 1] rfl)
        refine lv_if_ne (tgt := 39) hx hb dX11_choose_32 rfl (fun c_27 => ?_) (fun c_27 => ?_)
        · have c_27 : lvF ft st tn q ∧ (kd q).toInt = 3 := zp_1 c_27
          refine lv_iconst (v := 0) hx hb dX11_choose_39 rfl ?_
          refine zz_i (v := pI (¬ (rdF ft st tn kd) q)) (by first | exact (zp_t (by first | with_reducible assumption | assumption)).symm | exact (zp_f (fun h => h (by first | with_reducible assumption | assumption))).symm) ?_
          exact hj_26 
        · have c_27 : ¬ (lvF ft st tn q ∧ (kd q).toInt = 3) := zp_0 c_27
          refine lv_iconst (v := 1) hx hb dX11_choose_35 rfl ?_
          refine lv_goto (tgt := 40) hx hb dX11_choose_36 rfl ?_
          refine zz_i (v := pI (¬ (rdF ft st tn kd) q)) (by first | exact (zp_t (by first | with_reducible assumption | assumption)).symm | exact (zp_f (fun h => h (by first | with_reducible assumption | assumption))).symm) ?_
          exact hj_26 
  exact hl_7 _ 0 mk mt H locs ls (Nat.lt_succ_self _) (by first | with_reducible assumption | omega) (by intro j hj; omega) (by intro j hj; omega) hP hD hS (lv_sub hl [0, 1] rfl)
set_option maxHeartbeats 4000000 in
set_option maxRecDepth 100000 in
theorem k_M_choose_y (l : Launch) (dC : Nat → ClassId) (dI : Nat → Nat → Nat) (cI cZ cF : ClassId) (sz : Nat) (k0 : Nat) (a : Nat → Nat) (I0 : Nat → Int32) (J0 : Nat → Int64) (ft : Nat) (dn : Nat) (bs : Nat) (w0 : Nat) (cp : Nat) (c1 : Nat) (c2 : Nat) (ln : Nat) (cl : Nat) (kd : Nat → Int32) (st : Nat → Int32) (gb : Nat → Int32) (it : Nat → Int32) (pa : Nat → Int32) (pb : Nat → Int32) (rk : Nat → Int32) (wd : Nat → Int32) (tw : Nat → Int32) (tn : Nat → Int32) (mn : Nat → Int32) (cx : Nat → Int32) (cy : Nat → Int32) (sa : Nat → Int32) (sh : Nat → Int32) (wh : Nat → Int32) (of9 : Nat → Int32) (we : Nat → Int32) (la : Nat → Int32) (lb : Nat → Int32) (lc : Nat → Int32) (ld : Nat → Int32) (S0 : Nat → Int32) (mk : Nat → Int32) (mt : Nat → Int32) (jx : Nat → Int32) (jy : Nat → Int32) (gr : Nat → Int32) (hft : I0 0 = nI ft) (h200 : ft ≤ 200) (hwf : ∀ q, lvF ft st tn q → wfM mn cx cy q) (hrk : ∀ q, lvF ft st tn q → 0 ≤ (rk q).toInt ∧ (rk q).toInt ≤ 9) (hz : 0 < cntP (chM (rdF ft st tn kd) (chW rk mn cx cy) (chB cx cy) (chL mn cx cy)) ft) (hdn : I0 19 = nI dn) (hbs : I0 21 = nI bs) (hbd : bs ≤ dn) (hd512 : dn ≤ 512) (hlc : ln ≤ 64 * cl) (hcl1 : 1 ≤ cl) (hclm : cl ≤ 1000000) (hi5_1 : (dn - bs) < 515) (hsa_1 : sa (dn - bs) = nI w0) (hmn_1 : ∀ v9, v9 < ft → (tn v9).toInt = 0 → ¬ (st v9).toInt = 0 → mn v9 = nI (nN (mn v9)) ∧ nN (mn v9) ≤ 40) (hc1_1 : 1 ≤ cp) (hpw_1 : pw cp c1) (hw0_1 : w0 ≤ 4096 * cp) (hfit_1 : psN (nnF st tn mn) w0 ft ≤ 4096 * c1) (hmin_1 : c1 = cp ∨ 2048 * c1 < psN (nnF st tn mn) w0 ft) (hcE_1 : c1 ≤ 512) (hpw_2 : pw c1 c2) (hfit_2 : psN (nnF (gnA (chM (rdF ft st tn kd) (chW rk mn cx cy) (chB cx cy) (chL mn cx cy)) ft 2 st) tn mn) (psN (nnF st tn mn) w0 ft) ft ≤ 4096 * c2) (hmin_2 : c2 = c1 ∨ 2048 * c2 < psN (nnF (gnA (chM (rdF ft st tn kd) (chW rk mn cx cy) (chB cx cy) (chL mn cx cy)) ft 2 st) tn mn) (psN (nnF st tn mn) w0 ft) ft) (hcE_2 : c2 ≤ 512) : zM l yX11_choose cX11_choose 7 (some .int) ({ frames := 4, cells := c2 - cp, slots := 8192 * (c2 - cp), locals := 93 } : Room) [.ref k0] (dC, dI) (zTy cI cZ cF) [(om k0 a (upd I0 26 (nI ln)) J0), (oa (a 1) cI 201 kd), (oa (a 5) cI 201 st), (oa (a 7) cI 201 gb), (oa (a 10) cI 201 it), (oa (a 8) cI 201 pa), (oa (a 9) cI 201 pb), (oa (a 2) cI 201 rk), (oa (a 3) cI 201 wd), (oa (a 4) cI 201 tw), (oa (a 6) cZ 201 tn), (oa (a 11) cI 201 mn), (oa (a 12) cI 8040 cx), (oa (a 13) cI 8040 cy), (oa (a 27) cI 516 sa), (oa (a 28) cI (4096 * cp) sh), (oa (a 16) cI 514 wh), (oa (a 17) cI 514 of9), (oa (a 18) cI 514 we), (oa (a 22) cI (64 * cl) la), (oa (a 23) cI (64 * cl) lb), (oa (a 24) cI (64 * cl) lc), (oa (a 25) cI (64 * cl) ld), (oa (a 32) cI 8 S0), (oa (a 50) cZ 201 mk), (oa (a 37) cZ 201 mt), (oa (a 51) cI 402 jx), (oa (a 52) cI 402 jy), (oa (a 53) cI 402 gr)] sz (some (.int (nI (cntP (chM (rdF ft st tn kd) (chW rk mn cx cy) (chB cx cy) (chL mn cx cy)) ft)))) (fun A t => ∃ (b2 : Nat), ∃ (sh2 : Nat → Int32), ∃ (t9 : Nat), ∃ (la1 : Nat → Int32), ∃ (lb1 : Nat → Int32), ∃ (lc1 : Nat → Int32), ∃ (ld1 : Nat → Int32), ∃ (pc9 : Nat), ∃ (S1 : Nat → Int32), ∃ (mk1 : Nat → Int32), ∃ (mt1 : Nat → Int32), ∃ (jx1 : Nat → Int32), ∃ (jy1 : Nat → Int32), ∃ (gr1 : Nat → Int32), (sh2 w0 = nI ft) ∧ (∀ j, j < w0 → sh2 j = sh j) ∧ (∀ g, g < ft → ∀ j, j < 10 + 2 * (nnF st tn mn) g → sh2 (psN (nnF st tn mn) w0 g + j) = (shD kd st gb it pa pb rk wd tw (nnF st tn mn) cx cy) g j) ∧ (sh2 (psN (nnF st tn mn) w0 ft) = nI ft) ∧ (∀ g, g < ft → ∀ j, j < 10 + 2 * (nnF (gnA (chM (rdF ft st tn kd) (chW rk mn cx cy) (chB cx cy) (chL mn cx cy)) ft 2 st) tn mn) g → sh2 (psN (nnF (gnA (chM (rdF ft st tn kd) (chW rk mn cx cy) (chB cx cy) (chL mn cx cy)) ft 2 st) tn mn) (psN (nnF st tn mn) w0 ft) g + j) = (shD kd (gnA (chM (rdF ft st tn kd) (chW rk mn cx cy) (chB cx cy) (chL mn cx cy)) ft 2 st) (gnA (chM (rdF ft st tn kd) (chW rk mn cx cy) (chB cx cy) (chL mn cx cy)) ft (nI (dn + 1)) gb) (gnA (chM (rdF ft st tn kd) (chW rk mn cx cy) (chB cx cy) (chL mn cx cy)) ft (-1 : Int32) it) pa pb rk wd tw (nnF (gnA (chM (rdF ft st tn kd) (chW rk mn cx cy) (chB cx cy) (chL mn cx cy)) ft 2 st) tn mn) cx cy) g j) ∧ (t9 ≤ ln) ∧ (∀ j, j < t9 → ∃ i, i < ln ∧ lb1 j = lb i ∧ lc1 j = lc i) ∧ zPD (dC, dI) classes A [(om k0 (va_up a 28 b2) (upd (upd (upd (upd (upd (upd I0 14 0) 19 (nI (dn + 1))) 20 0) 26 (nI t9)) 41 (nI (psN (nnF (gnA (chM (rdF ft st tn kd) (chW rk mn cx cy) (chB cx cy) (chL mn cx cy)) ft 2 st) tn mn) (psN (nnF st tn mn) w0 ft) ft))) 54 (nI pc9)) J0), (oa (a 1) cI 201 kd), (oa (a 5) cI 201 (gnA (chM (rdF ft st tn kd) (chW rk mn cx cy) (chB cx cy) (chL mn cx cy)) ft 2 st)), (oa (a 7) cI 201 (gnA (chM (rdF ft st tn kd) (chW rk mn cx cy) (chB cx cy) (chL mn cx cy)) ft (nI (dn + 1)) gb)), (oa (a 10) cI 201 (gnA (chM (rdF ft st tn kd) (chW rk mn cx cy) (chB cx cy) (chL mn cx cy)) ft (-1 : Int32) it)), (oa (a 8) cI 201 pa), (oa (a 9) cI 201 pb), (oa (a 2) cI 201 rk), (oa (a 3) cI 201 wd), (oa (a 4) cI 201 tw), (oa (a 6) cZ 201 tn), (oa (a 11) cI 201 mn), (oa (a 12) cI 8040 cx), (oa (a 13) cI 8040 cy), (oa (a 27) cI 516 (upd (upd sa (dn - bs + 1) (nI (psN (nnF st tn mn) w0 ft))) (dn + 1 - bs + 1) (nI (psN (nnF (gnA (chM (rdF ft st tn kd) (chW rk mn cx cy) (chB cx cy) (chL mn cx cy)) ft 2 st) tn mn) (psN (nnF st tn mn) w0 ft) ft)))), (oa b2 cI (4096 * c2) sh2), (oa (a 16) cI 514 (upd wh (dn + 1) (9 : Int32))), (oa (a 17) cI 514 (upd of9 (dn + 1) (-1 : Int32))), (oa (a 18) cI 514 (upd we (dn + 1) (nI (cntP (chM (rdF ft st tn kd) (chW rk mn cx cy) (chB cx cy) (chL mn cx cy)) ft)))), (oa (a 22) cI (64 * cl) la1), (oa (a 23) cI (64 * cl) lb1), (oa (a 24) cI (64 * cl) lc1), (oa (a 25) cI (64 * cl) ld1), (oa (a 32) cI 8 S1), (oa (a 50) cZ 201 mk1), (oa (a 37) cZ 201 mt1), (oa (a 51) cI 402 jx1), (oa (a 52) cI 402 jy1), (oa (a 53) cI 402 gr1)] t.heap) (c2 - cp) (8192 * (c2 - cp)) := by
  refine zIn (own := "ScaleShopModel") (loc := [(0, .ref k0)]) rfl rfl rfl rfl (fun p e s m below meth c hx hb hr hts hown hlocks hml hnm9 A hA hS hP hD hK hXN Q9 hQ9 ls hl => ?_)
  have hq1 := pw_le hpw_1
  have hq2 := pw_le hpw_2
  refine lv_aload_n hx hb dX11_choose_0 rfl (lv_at hl 0 rfl) ?_
  refine lv_iconst (v := 0) hx hb dX11_choose_1 rfl ?_
  refine va_put (D := (dC, dI)) (ci := 9) (v := .int 0) (ty := .int) (C := RX11) (T := TX11) (N := 55) hx hb hts inX11 tyX11 tyX11_ok nmX11 hown hK hP hD hS 0 rfl rfl 54 (by decide) (hts _ mw_1213) (fun _ h9 => h9) rfl (by decide +kernel) rfl rfl (Nat.le_of_ble_eq_true rfl) dX11_choose_2 (fun H locs hP hD hS => ?_)
  obtain ⟨hP, hD⟩ := zre (W2 := [(om k0 a (upd (upd I0 26 (nI ln)) 54 0) J0), _, _, _, _, _, _, _, _, _, _, _, _, _, _, _, _, _, _, _, _, _, _, _, _, _, _, _, _]) hP hD rfl
  refine lv_iconst (v := 0) hx hb dX11_choose_5 rfl ?_
  refine lv_istore_n (lv' := [(1, .int 0), (0, .ref k0)]) hx hb dX11_choose_6 rfl hl (Nat.le_of_ble_eq_true rfl) rfl (fun ls hl => ?_)
  have hl_7 : ∀ (n9 : Nat) (q : Nat) (mk0 : Nat → Int32) (mt0 : Nat → Int32) (H : Heap) (locs : List Loc) (ls : Array Slot), ft - q < n9 → (q ≤ ft) → (∀ j, j < q → mk0 j = pI (False ∧ (chM (rdF ft st tn kd) (chW rk mn cx cy) (chB cx cy) (chL mn cx cy)) j)) → (∀ j, j < q → mt0 j = pI (¬ (rdF ft st tn kd) j ∨ False)) → va_P (dC, dI) classes [(om k0 a (upd (upd I0 26 (nI ln)) 54 0) J0), (oa (a 1) cI 201 kd), (oa (a 5) cI 201 st), (oa (a 7) cI 201 gb), (oa (a 10) cI 201 it), (oa (a 8) cI 201 pa), (oa (a 9) cI 201 pb), (oa (a 2) cI 201 rk), (oa (a 3) cI 201 wd), (oa (a 4) cI 201 tw), (oa (a 6) cZ 201 tn), (oa (a 11) cI 201 mn), (oa (a 12) cI 8040 cx), (oa (a 13) cI 8040 cy), (oa (a 27) cI 516 sa), (oa (a 28) cI (4096 * cp) sh), (oa (a 16) cI 514 wh), (oa (a 17) cI 514 of9), (oa (a 18) cI 514 we), (oa (a 22) cI (64 * cl) la), (oa (a 23) cI (64 * cl) lb), (oa (a 24) cI (64 * cl) lc), (oa (a 25) cI (64 * cl) ld), (oa (a 32) cI 8 S0), (oa (a 50) cZ 201 mk0), (oa (a 37) cZ 201 mt0), (oa (a 51) cI 402 jx), (oa (a 52) cI 402 jy), (oa (a 53) cI 402 gr)] H → va_D A [(om k0 a (upd (upd I0 26 (nI ln)) 54 0) J0), (oa (a 1) cI 201 kd), (oa (a 5) cI 201 st), (oa (a 7) cI 201 gb), (oa (a 10) cI 201 it), (oa (a 8) cI 201 pa), (oa (a 9) cI 201 pb), (oa (a 2) cI 201 rk), (oa (a 3) cI 201 wd), (oa (a 4) cI 201 tw), (oa (a 6) cZ 201 tn), (oa (a 11) cI 201 mn), (oa (a 12) cI 8040 cx), (oa (a 13) cI 8040 cy), (oa (a 27) cI 516 sa), (oa (a 28) cI (4096 * cp) sh), (oa (a 16) cI 514 wh), (oa (a 17) cI 514 of9), (oa (a 18) cI 514 we), (oa (a 22) cI (64 * cl) la), (oa (a 23) cI (64 * cl) lb), (oa (a 24) cI (64 * cl) lc), (oa (a 25) cI (64 * cl) ld), (oa (a 32) cI 8 S0), (oa (a 50) cZ 201 mk0), (oa (a 37) cZ 201 mt0), (oa (a 51) cI 402 jx), (oa (a 52) cI 402 jy), (oa (a 53) cI 402 gr)] → va_S A s.heap H locs → lv_has ls 7 [(1, .int (nI q)), (0, .ref k0)] → W p l e ({ frames := 4, cells := c2 - cp, slots := 8192 * (c2 - cp), locals := 93 } : Room) s m ([.ref k0] : List Value).toArray below meth c H locs 0 0 Q9 (F0 m 7 ls []) := by
    intro n9
    induction n9 with
    | zero => intro q mk0 mt0 H locs ls hm; exact absurd hm (Nat.not_lt_zero _)
    | succ n9 ih_7 =>
      intro q mk0 mt0 H locs ls hm hq hm0 ht0 hP hD hS hl
      refine lv_iload_n hx hb dX11_choose_7 rfl (lv_at hl 0 rfl) ?_
      refine lv_aload_n hx hb dX11_choose_8 rfl (lv_at hl 1 rfl) ?_
      refine va_get (D := (dC, dI)) (ci := 9) (v := .int (I0 0)) (C := RX11) (T := TX11) (N := 55) hx hb hts inX11 hown hK hP 0 rfl rfl 0 (Nat.le_of_ble_eq_true rfl) (hts _ mw_1159) (fun _ h9 => h9) rfl dX11_choose_9 ?_
      refine zz_i (v := nI ft) (hft) ?_
      have b9_2 : zlt (q) := show q < 2147483648 by omega
      have b9_3 : zlt (ft) := show ft < 2147483648 by omega
      refine lv_icmp_ge (tgt := 47) hx hb dX11_choose_12 rfl (fun c_1 => ?_) (fun c_1 => ?_)
      · have c_1 : ((ft : Nat) : Int) ≤ ((q : Nat) : Int) := zc_le (nI_toInt b9_3) (nI_toInt b9_2) c_1
        refine lv_iconst (v := 0) hx hb dX11_choose_47 rfl ?_
        refine lv_istore_n (lv' := [(1, .int 0), (0, .ref k0)]) hx hb dX11_choose_48 rfl hl (Nat.le_of_ble_eq_true rfl) rfl (fun ls hl => ?_)
        have hl_49 : ∀ (n9 : Nat) (r9 : Nat) (pcn : Nat) (D : Nat → Prop) (mt1 : Nat → Int32) (mk1 : Nat → Int32) (jx1 : Nat → Int32) (jy1 : Nat → Int32) (gr1 : Nat → Int32) (S1 : Nat → Int32) (H : Heap) (locs : List Loc) (ls : Array Slot), ft - r9 < n9 → (r9 ≤ ft) → (chD (rdF ft st tn kd) (chW rk mn cx cy) D) → (r9 ≤ cntP D ft) → (∀ j, j < ft → mt1 j = pI (¬ (rdF ft st tn kd) j ∨ D j)) → (∀ j, j < ft → mk1 j = pI (D j ∧ (chM (rdF ft st tn kd) (chW rk mn cx cy) (chB cx cy) (chL mn cx cy)) j)) → (chI D (chB cx cy) (chL mn cx cy) (fun i => (jx1 i, jy1 i)) gr1 pcn) → (pcn ≤ 2 * r9) → va_P (dC, dI) classes [(om k0 a (upd (upd I0 26 (nI ln)) 54 (nI pcn)) J0), (oa (a 1) cI 201 kd), (oa (a 5) cI 201 st), (oa (a 7) cI 201 gb), (oa (a 10) cI 201 it), (oa (a 8) cI 201 pa), (oa (a 9) cI 201 pb), (oa (a 2) cI 201 rk), (oa (a 3) cI 201 wd), (oa (a 4) cI 201 tw), (oa (a 6) cZ 201 tn), (oa (a 11) cI 201 mn), (oa (a 12) cI 8040 cx), (oa (a 13) cI 8040 cy), (oa (a 27) cI 516 sa), (oa (a 28) cI (4096 * cp) sh), (oa (a 16) cI 514 wh), (oa (a 17) cI 514 of9), (oa (a 18) cI 514 we), (oa (a 22) cI (64 * cl) la), (oa (a 23) cI (64 * cl) lb), (oa (a 24) cI (64 * cl) lc), (oa (a 25) cI (64 * cl) ld), (oa (a 32) cI 8 S1), (oa (a 50) cZ 201 mk1), (oa (a 37) cZ 201 mt1), (oa (a 51) cI 402 jx1), (oa (a 52) cI 402 jy1), (oa (a 53) cI 402 gr1)] H → va_D A [(om k0 a (upd (upd I0 26 (nI ln)) 54 (nI pcn)) J0), (oa (a 1) cI 201 kd), (oa (a 5) cI 201 st), (oa (a 7) cI 201 gb), (oa (a 10) cI 201 it), (oa (a 8) cI 201 pa), (oa (a 9) cI 201 pb), (oa (a 2) cI 201 rk), (oa (a 3) cI 201 wd), (oa (a 4) cI 201 tw), (oa (a 6) cZ 201 tn), (oa (a 11) cI 201 mn), (oa (a 12) cI 8040 cx), (oa (a 13) cI 8040 cy), (oa (a 27) cI 516 sa), (oa (a 28) cI (4096 * cp) sh), (oa (a 16) cI 514 wh), (oa (a 17) cI 514 of9), (oa (a 18) cI 514 we), (oa (a 22) cI (64 * cl) la), (oa (a 23) cI (64 * cl) lb), (oa (a 24) cI (64 * cl) lc), (oa (a 25) cI (64 * cl) ld), (oa (a 32) cI 8 S1), (oa (a 50) cZ 201 mk1), (oa (a 37) cZ 201 mt1), (oa (a 51) cI 402 jx1), (oa (a 52) cI 402 jy1), (oa (a 53) cI 402 gr1)] → va_S A s.heap H locs → lv_has ls 7 [(1, .int (nI r9)), (0, .ref k0)] → W p l e ({ frames := 4, cells := c2 - cp, slots := 8192 * (c2 - cp), locals := 93 } : Room) s m ([.ref k0] : List Value).toArray below meth c H locs 0 0 Q9 (F0 m 49 ls []) := by
          intro n9
          induction n9 with
          | zero => intro r9 pcn D mt1 mk1 jx1 jy1 gr1 S1 H locs ls hm; exact absurd hm (Nat.not_lt_zero _)
          | succ n9 ih_49 =>
            intro r9 pcn D mt1 mk1 jx1 jy1 gr1 S1 H locs ls hm hr9 hDD hDc hmt hmk hcI hpn hP hD hS hl
            refine lv_iload_n hx hb dX11_choose_49 rfl (lv_at hl 0 rfl) ?_
            refine lv_aload_n hx hb dX11_choose_50 rfl (lv_at hl 1 rfl) ?_
            refine va_get (D := (dC, dI)) (ci := 9) (v := .int (I0 0)) (C := RX11) (T := TX11) (N := 55) hx hb hts inX11 hown hK hP 0 rfl rfl 0 (Nat.le_of_ble_eq_true rfl) (hts _ mw_1159) (fun _ h9 => h9) rfl dX11_choose_51 ?_
            refine zz_i (v := nI ft) (hft) ?_
            have b9_5 : zlt (r9) := show r9 < 2147483648 by omega
            refine lv_icmp_ge (tgt := 259) hx hb dX11_choose_54 rfl (fun c_4 => ?_) (fun c_4 => ?_)
            · have c_4 : ((ft : Nat) : Int) ≤ ((r9 : Nat) : Int) := zc_le (nI_toInt b9_3) (nI_toInt b9_5) c_4
              have hall : ∀ j, j < ft → (rdF ft st tn kd) j → D j := (by first | exact (fun j hj _ => cntP_all (by omega) j hj) | exact fun j hj hR => (bst_no hat (by omega) (by omega) j (by omega)).resolve_left (fun h => h hR))
              have hmkF : ∀ j, j < ft → mk1 j = pI ((chM (rdF ft st tn kd) (chW rk mn cx cy) (chB cx cy) (chL mn cx cy)) j) := fun j hj => (by rw [hmk j hj]; exact zp_iff ⟨fun h => h.2, fun h => ⟨hall j hj h.1, h⟩⟩)
              refine lv_aload_n hx hb dX11_choose_259 rfl (lv_at hl 1 rfl) ?_
              refine lv_bipush (v := 9) hx hb dX11_choose_260 rfl ?_
              obtain ⟨hPc, hDc, hFc⟩ := zo_sub (wc := [_, _, _, _, _, _, _, _, _, _, _, _, _, _, _, _, _, _, _, _, _, _, _, _]) hP hD hS hA [0, 1, 2, 3, 4, 5, 6, 7, 8, 9, 10, 11, 12, 13, 14, 15, 16, 17, 18, 19, 20, 21, 22, 24] (by decide +kernel) rfl
              refine zcall (st1 := [.int (nI (cntP (chM (rdF ft st tn kd) (chW rk mn cx cy) (chB cx cy) (chL mn cx cy)) ft))]) (va_runV (As := [.int 9]) (rest := []) ⟨hx, hb, hml, hown, hts⟩ (k_M_dropMarked_y l dC dI cI cZ cF H.size k0 a (upd (upd I0 26 (nI ln)) 54 (nI pcn)) J0 9 ft dn bs w0 cp c1 c2 ln cl kd st gb it pa pb rk wd tw tn mn cx cy sa sh wh of9 we la lb lc ld mk1 (chM (rdF ft st tn kd) (chW rk mn cx cy) (chB cx cy) (chL mn cx cy)) (hft) (by first | with_reducible assumption | omega) (hmkF) (fun j hj h => h.1.1.2.1) (hz) (hdn) (hbs) (by first | with_reducible assumption | omega) (by first | with_reducible assumption | omega) (hlc) (hcl1) (hclm) (hi5_1) (hsa_1) (hmn_1) (hc1_1) (hpw_1) (hw0_1) (hfit_1) (hmin_1) (hcE_1) (hpw_2) (hfit_2) (hmin_2) (hcE_2)) (csV_219 hts rfl rfl ⟨Nat.le_of_ble_eq_true rfl, Nat.le_of_ble_eq_true rfl⟩) (zPV2 (q0 := 0) (ci := 9) hPc hDc hK hXN rfl rfl) rfl rfl hl.1 rfl (lv_room (Nat.le_of_ble_eq_true rfl)) dX11_choose_262 ⟨show (0 + (c2 - cp)) ≤ c2 - cp by omega, show (0 + (8192 * (c2 - cp))) ≤ 8192 * (c2 - cp) by omega⟩) hS hFc hFc rfl (fun t H locs ht hB hk1 hS => ?_)
              refine ex7 hB (fun b2 sh2 t9 la1 lb1 lc1 ld1 hB0 => ?_)
              clear hB
              obtain ⟨p0, p1, p2, p3, p4, p5, p6, hP1, hD1⟩ := hB0
              rw [ht] at hP1
              obtain ⟨hP, hD⟩ := zn (W2 := [_, _, _, _, _, (om k0 (va_up a 28 b2) (upd (upd (upd (upd (upd (upd I0 14 0) 19 (nI (dn + 1))) 20 0) 26 (nI t9)) 41 (nI (psN (nnF (gnA (chM (rdF ft st tn kd) (chW rk mn cx cy) (chB cx cy) (chL mn cx cy)) ft 2 st) tn mn) (psN (nnF st tn mn) w0 ft) ft))) 54 (nI pcn)) J0), (oa (a 1) cI 201 kd), (oa (a 5) cI 201 (gnA (chM (rdF ft st tn kd) (chW rk mn cx cy) (chB cx cy) (chL mn cx cy)) ft 2 st)), (oa (a 7) cI 201 (gnA (chM (rdF ft st tn kd) (chW rk mn cx cy) (chB cx cy) (chL mn cx cy)) ft (nI (dn + 1)) gb)), (oa (a 10) cI 201 (gnA (chM (rdF ft st tn kd) (chW rk mn cx cy) (chB cx cy) (chL mn cx cy)) ft (-1 : Int32) it)), (oa (a 8) cI 201 pa), (oa (a 9) cI 201 pb), (oa (a 2) cI 201 rk), (oa (a 3) cI 201 wd), (oa (a 4) cI 201 tw), (oa (a 6) cZ 201 tn), (oa (a 11) cI 201 mn), (oa (a 12) cI 8040 cx), (oa (a 13) cI 8040 cy), (oa (a 27) cI 516 (upd (upd sa (dn - bs + 1) (nI (psN (nnF st tn mn) w0 ft))) (dn + 1 - bs + 1) (nI (psN (nnF (gnA (chM (rdF ft st tn kd) (chW rk mn cx cy) (chB cx cy) (chL mn cx cy)) ft 2 st) tn mn) (psN (nnF st tn mn) w0 ft) ft)))), (oa b2 cI (4096 * c2) sh2), (oa (a 16) cI 514 (upd wh (dn + 1) (9 : Int32))), (oa (a 17) cI 514 (upd of9 (dn + 1) (-1 : Int32))), (oa (a 18) cI 514 (upd we (dn + 1) (nI (cntP (chM (rdF ft st tn kd) (chW rk mn cx cy) (chB cx cy) (chL mn cx cy)) ft)))), (oa (a 22) cI (64 * cl) la1), (oa (a 23) cI (64 * cl) lb1), (oa (a 24) cI (64 * cl) lc1), (oa (a 25) cI (64 * cl) ld1), (oa (a 50) cZ 201 mk1)]) hP hD hk1 hFc hP1 hD1 zl_263 zl_264 zl_265 zl_266 (by decide +kernel) rfl rfl rfl rfl rfl
              clear hk1 hPc hDc hFc hP1 hD1 ht
              obtain ⟨hP9, hD9⟩ := zq_sub (wc := [_, _, _, _, _, _, _, _, _, _, _, _, _, _, _, _, _, _, _, _, _, _, _, _, _, _, _, _, _]) hP hD [5, 6, 7, 8, 9, 10, 11, 12, 13, 14, 15, 16, 17, 18, 19, 20, 21, 22, 23, 24, 25, 26, 27, 0, 28, 1, 2, 3, 4] rfl rfl
              refine W.widen (k := c2 - cp) (n := 8192 * (c2 - cp)) (by omega) (by omega) ?_
              rw [hQ9]
              exact W.iret (v := nI (cntP (chM (rdF ft st tn kd) (chW rk mn cx cy) (chB cx cy) (chL mn cx cy)) ft)) hx hb hr (fun t ht hW => ⟨⟨rfl, b2, sh2, t9, la1, lb1, lc1, ld1, pcn, S1, mk1, mt1, jx1, jy1, gr1, (p0), (p1), (p2), (p3), (p4), (p5), (p6), by rw [ht]; exact hP9, hD9⟩, hS.F ht⟩) hS.2.2 dX11_choose_265
            · have c_4 : ((r9 : Nat) : Int) < ((ft : Nat) : Int) := zc_nle (nI_toInt b9_3) (nI_toInt b9_5) c_4
              refine lv_iconst (v := (-1)) hx hb dX11_choose_57 rfl ?_
              refine lv_istore_n (lv' := [(2, .int (-1)), (1, .int (nI r9)), (0, .ref k0)]) hx hb dX11_choose_58 rfl hl (Nat.le_of_ble_eq_true rfl) rfl (fun ls hl => ?_)
              refine lv_iconst (v := 0) hx hb dX11_choose_59 rfl ?_
              refine lv_istore_n (lv' := [(3, .int 0), (2, .int (-1)), (1, .int (nI r9)), (0, .ref k0)]) hx hb dX11_choose_60 rfl hl (Nat.le_of_ble_eq_true rfl) rfl (fun ls hl => ?_)
              have hl_61 : ∀ (n9 : Nat) (q : Nat) (zb : Int32) (S2 : Nat → Int32) (H : Heap) (locs : List Loc) (ls : Array Slot), ft - q < n9 → (q ≤ ft) → (bstS (chW rk mn cx cy) (fun j => ¬ (rdF ft st tn kd) j ∨ D j) q zb) → va_P (dC, dI) classes [(om k0 a (upd (upd I0 26 (nI ln)) 54 (nI pcn)) J0), (oa (a 1) cI 201 kd), (oa (a 5) cI 201 st), (oa (a 7) cI 201 gb), (oa (a 10) cI 201 it), (oa (a 8) cI 201 pa), (oa (a 9) cI 201 pb), (oa (a 2) cI 201 rk), (oa (a 3) cI 201 wd), (oa (a 4) cI 201 tw), (oa (a 6) cZ 201 tn), (oa (a 11) cI 201 mn), (oa (a 12) cI 8040 cx), (oa (a 13) cI 8040 cy), (oa (a 27) cI 516 sa), (oa (a 28) cI (4096 * cp) sh), (oa (a 16) cI 514 wh), (oa (a 17) cI 514 of9), (oa (a 18) cI 514 we), (oa (a 22) cI (64 * cl) la), (oa (a 23) cI (64 * cl) lb), (oa (a 24) cI (64 * cl) lc), (oa (a 25) cI (64 * cl) ld), (oa (a 32) cI 8 S2), (oa (a 50) cZ 201 mk1), (oa (a 37) cZ 201 mt1), (oa (a 51) cI 402 jx1), (oa (a 52) cI 402 jy1), (oa (a 53) cI 402 gr1)] H → va_D A [(om k0 a (upd (upd I0 26 (nI ln)) 54 (nI pcn)) J0), (oa (a 1) cI 201 kd), (oa (a 5) cI 201 st), (oa (a 7) cI 201 gb), (oa (a 10) cI 201 it), (oa (a 8) cI 201 pa), (oa (a 9) cI 201 pb), (oa (a 2) cI 201 rk), (oa (a 3) cI 201 wd), (oa (a 4) cI 201 tw), (oa (a 6) cZ 201 tn), (oa (a 11) cI 201 mn), (oa (a 12) cI 8040 cx), (oa (a 13) cI 8040 cy), (oa (a 27) cI 516 sa), (oa (a 28) cI (4096 * cp) sh), (oa (a 16) cI 514 wh), (oa (a 17) cI 514 of9), (oa (a 18) cI 514 we), (oa (a 22) cI (64 * cl) la), (oa (a 23) cI (64 * cl) lb), (oa (a 24) cI (64 * cl) lc), (oa (a 25) cI (64 * cl) ld), (oa (a 32) cI 8 S2), (oa (a 50) cZ 201 mk1), (oa (a 37) cZ 201 mt1), (oa (a 51) cI 402 jx1), (oa (a 52) cI 402 jy1), (oa (a 53) cI 402 gr1)] → va_S A s.heap H locs → lv_has ls 7 [(3, .int (nI q)), (2, .int zb), (1, .int (nI r9)), (0, .ref k0)] → W p l e ({ frames := 4, cells := c2 - cp, slots := 8192 * (c2 - cp), locals := 93 } : Room) s m ([.ref k0] : List Value).toArray below meth c H locs 0 0 Q9 (F0 m 61 ls []) := by
                intro n9
                induction n9 with
                | zero => intro q zb S2 H locs ls hm; exact absurd hm (Nat.not_lt_zero _)
                | succ n9 ih_61 =>
                  intro q zb S2 H locs ls hm hq hat hP hD hS hl
                  refine lv_iload_n hx hb dX11_choose_61 rfl (lv_at hl 0 rfl) ?_
                  refine lv_aload_n hx hb dX11_choose_62 rfl (lv_at hl 3 rfl) ?_
                  refine va_get (D := (dC, dI)) (ci := 9) (v := .int (I0 0)) (C := RX11) (T := TX11) (N := 55) hx hb hts inX11 hown hK hP 0 rfl rfl 0 (Nat.le_of_ble_eq_true rfl) (hts _ mw_1159) (fun _ h9 => h9) rfl dX11_choose_63 ?_
                  refine zz_i (v := nI ft) (hft) ?_
                  have b9_7 : zlt (q) := show q < 2147483648 by omega
                  refine lv_icmp_ge (tgt := 105) hx hb dX11_choose_66 rfl (fun c_6 => ?_) (fun c_6 => ?_)
                  · have c_6 : ((ft : Nat) : Int) ≤ ((q : Nat) : Int) := zc_le (nI_toInt b9_3) (nI_toInt b9_7) c_6
                    refine lv_iload_n hx hb dX11_choose_105 rfl (lv_at hl 1 rfl) ?_
                    refine lv_iconst (v := (-1)) hx hb dX11_choose_106 rfl ?_
                    refine lv_icmp_ne (tgt := 113) hx hb dX11_choose_107 rfl (fun c_8 => ?_) (fun c_8 => ?_)
                    · have c_8 : ¬ zb.toInt = (-1) := zc_ne rfl rfl c_8
                      have hqf : q = ft := (by omega)
                      rw [hqf] at hat
                      obtain ⟨b9, hz9, hbk, hbF, hbm⟩ := bst_get hat (by omega)
                      have hRq_b9 : (rdF ft st tn kd) b9 := (Classical.byContradiction fun h => hbF (Or.inl h))
                      have hw_b9 := hwf b9 hRq_b9.1
                      have hn_b9 := hw_b9.2.1
                      have hk_b9 := hrk b9 hRq_b9.1
                      have hc_b9 := chW_b hk_b9 hw_b9
                      have hDb : ¬ D b9 := fun h => hbF (Or.inr h)
                      have hds := chD_s hDD (ft := ft) (fun q h => h.1.1) hRq_b9 hDb (fun j hj hR hn => hbm j hj (fun h => h.elim (fun h => h hR) hn))
                      refine lv_aload_n hx hb dX11_choose_113 rfl (lv_at hl 3 rfl) ?_
                      refine va_get (D := (dC, dI)) (ci := 9) (v := .ref (a 37)) (C := RX11) (T := TX11) (N := 55) hx hb hts inX11 hown hK hP 0 rfl rfl 37 (Nat.le_of_ble_eq_true rfl) (hts _ mw_1196) (fun _ h9 => h9) rfl dX11_choose_114 ?_
                      refine lv_iload_n hx hb dX11_choose_117 rfl (lv_at hl 1 rfl) ?_
                      refine zz_i (v := nI b9) (hz9) ?_
                      refine lv_iconst (v := 1) hx hb dX11_choose_118 rfl ?_
                      have b9_9 : b9 < 201 := by omega
                      refine z_zast hx hb hK hP hD hS 25 1 rfl rfl (e := b9) (x := 1) rfl b9_9 (Nat.le_of_ble_eq_true rfl) (by decide) dX11_choose_119 (fun H locs hP hD hS => ?_)
                      obtain ⟨hP, hD⟩ := zre (W2 := [_, _, _, _, _, _, _, _, _, _, _, _, _, _, _, _, _, _, _, _, _, _, _, _, _, (oa (a 37) cZ 201 (upd mt1 b9 1)), _, _, _]) hP hD rfl
                      refine lv_aload_n hx hb dX11_choose_120 rfl (lv_at hl 3 rfl) ?_
                      refine va_get (D := (dC, dI)) (ci := 9) (v := .ref (a 53)) (C := RX11) (T := TX11) (N := 55) hx hb hts inX11 hown hK hP 0 rfl rfl 53 (Nat.le_of_ble_eq_true rfl) (hts _ mw_1212) (fun _ h9 => h9) rfl dX11_choose_121 ?_
                      refine lv_aload_n hx hb dX11_choose_124 rfl (lv_at hl 3 rfl) ?_
                      refine lv_aload_n hx hb dX11_choose_125 rfl (lv_at hl 3 rfl) ?_
                      refine va_get (D := (dC, dI)) (ci := 9) (v := .ref (a 12)) (C := RX11) (T := TX11) (N := 55) hx hb hts inX11 hown hK hP 0 rfl rfl 12 (Nat.le_of_ble_eq_true rfl) (hts _ mw_1171) (fun _ h9 => h9) rfl dX11_choose_126 ?_
                      refine lv_bipush (v := 40) hx hb dX11_choose_129 rfl ?_
                      refine lv_iload_n hx hb dX11_choose_131 rfl (lv_at hl 1 rfl) ?_
                      refine zz_i (v := nI b9) (hz9) ?_
                      refine lv_imul hx hb dX11_choose_132 ?_
                      refine zz_i (v := nI (40 * b9)) (pk_mul 40 b9) ?_
                      have b9_10 : 40 * b9 < 8040 := by omega
                      refine z_iald hx hb hK hP 12 0 rfl rfl (e := 40 * b9) rfl b9_10 (Nat.le_of_ble_eq_true rfl) dX11_choose_133 ?_
                      refine lv_aload_n hx hb dX11_choose_134 rfl (lv_at hl 3 rfl) ?_
                      refine va_get (D := (dC, dI)) (ci := 9) (v := .ref (a 13)) (C := RX11) (T := TX11) (N := 55) hx hb hts inX11 hown hK hP 0 rfl rfl 13 (Nat.le_of_ble_eq_true rfl) (hts _ mw_1172) (fun _ h9 => h9) rfl dX11_choose_135 ?_
                      refine lv_bipush (v := 40) hx hb dX11_choose_138 rfl ?_
                      refine lv_iload_n hx hb dX11_choose_140 rfl (lv_at hl 1 rfl) ?_
                      refine zz_i (v := nI b9) (hz9) ?_
                      refine lv_imul hx hb dX11_choose_141 ?_
                      refine zz_i (v := nI (40 * b9)) (pk_mul 40 b9) ?_
                      refine z_iald hx hb hK hP 13 0 rfl rfl (e := 40 * b9) rfl b9_10 (Nat.le_of_ble_eq_true rfl) dX11_choose_142 ?_
                      obtain ⟨hPc, hDc, hFc⟩ := zo_sub (wc := [_, _, _, _]) hP hD hS hA [0, 26, 27, 28] (by decide +kernel) rfl
                      refine zcalle (va_runV (As := [.int (cx (40 * b9)), .int (cy (40 * b9))]) (rest := [.ref (a 53)]) ⟨hx, hb, hml, hown, hts⟩ (k_M_placeOf_u l dC dI cI cZ cF H.size k0 a (upd (upd I0 26 (nI ln)) 54 (nI pcn)) J0 (cx (40 * b9)) (cy (40 * b9)) pcn jx1 jy1 gr1 (by first | with_reducible assumption | omega)) (csV_227 hts rfl rfl ⟨Nat.le_of_ble_eq_true rfl, Nat.le_of_ble_eq_true rfl⟩) (zPV2 (q0 := 0) (ci := 9) hPc hDc hK hXN rfl rfl) rfl rfl hl.1 rfl (lv_room (Nat.le_of_ble_eq_true rfl)) dX11_choose_143 ⟨Nat.zero_le _, Nat.zero_le _⟩) hS hFc hFc (fun v9 t H locs ht hB hk1 hS => ?_)
                      obtain ⟨pcA, iA, jxA, jyA, grA, rfl, hA1, hA2, hA3, hA4, hP1, hD1⟩ := hB
                      refine W.eq (g2 := F0 m 146 ls [.int (nI iA), .ref (a 53)]) rfl ?_
                      rw [ht] at hP1
                      obtain ⟨hP, hD⟩ := zn (W2 := [(om k0 a (upd (upd I0 26 (nI ln)) 54 (nI pcA)) J0), _, _, _, _, _, _, _, _, _, _, _, _, _, _, _, _, _, _, _, _, _, _, _, _, _, (oa (a 51) cI 402 jxA), (oa (a 52) cI 402 jyA), (oa (a 53) cI 402 grA)]) hP hD hk1 hFc hP1 hD1 [0, 26, 27, 28] zl_99 zl_267 [0, 26, 27, 28] (by decide +kernel) rfl rfl rfl rfl rfl
                      clear hk1 hPc hDc hFc hP1 hD1 ht
                      have b9_11 : iA < 402 := by omega
                      refine z_iald hx hb hK hP 28 0 rfl rfl (e := iA) rfl b9_11 (Nat.le_of_ble_eq_true rfl) dX11_choose_146 ?_
                      refine lv_istore_n (lv' := [(3, .int (grA iA)), (2, .int zb), (1, .int (nI r9)), (0, .ref k0)]) hx hb dX11_choose_147 rfl hl (Nat.le_of_ble_eq_true rfl) rfl (fun ls hl => ?_)
                      refine lv_bipush (v := 40) hx hb dX11_choose_148 rfl ?_
                      refine lv_iload_n hx hb dX11_choose_150 rfl (lv_at hl 1 rfl) ?_
                      refine zz_i (v := nI b9) (hz9) ?_
                      refine lv_imul hx hb dX11_choose_151 ?_
                      refine zz_i (v := nI (40 * b9)) (pk_mul 40 b9) ?_
                      refine lv_aload_n hx hb dX11_choose_152 rfl (lv_at hl 3 rfl) ?_
                      refine va_get (D := (dC, dI)) (ci := 9) (v := .ref (a 11)) (C := RX11) (T := TX11) (N := 55) hx hb hts inX11 hown hK hP 0 rfl rfl 11 (Nat.le_of_ble_eq_true rfl) (hts _ mw_1170) (fun _ h9 => h9) rfl dX11_choose_153 ?_
                      refine lv_iload_n hx hb dX11_choose_156 rfl (lv_at hl 1 rfl) ?_
                      refine zz_i (v := nI b9) (hz9) ?_
                      refine z_iald hx hb hK hP 11 0 rfl rfl (e := b9) rfl b9_9 (Nat.le_of_ble_eq_true rfl) dX11_choose_157 ?_
                      refine zz_i (v := nI (nN (mn b9))) (hw_b9.1) ?_
                      refine lv_iadd hx hb dX11_choose_158 ?_
                      refine zz_i (v := nI (40 * b9 + (nN (mn b9)))) (nI_add (40 * b9) (nN (mn b9))) ?_
                      refine lv_iconst (v := 1) hx hb dX11_choose_159 rfl ?_
                      refine lv_isub hx hb dX11_choose_160 ?_
                      refine zz_i (v := nI ((40 * b9 + (nN (mn b9))) - 1)) (pk_sub (a := 40 * b9 + (nN (mn b9))) (b := 1) (by omega)) ?_
                      refine lv_istore (lv' := [(4, .int (nI ((40 * b9 + (nN (mn b9))) - 1))), (3, .int (grA iA)), (2, .int zb), (1, .int (nI r9)), (0, .ref k0)]) hx hb dX11_choose_161 hl (Nat.le_of_ble_eq_true rfl) rfl (fun ls hl => ?_)
                      refine lv_aload_n hx hb dX11_choose_163 rfl (lv_at hl 4 rfl) ?_
                      refine va_get (D := (dC, dI)) (ci := 9) (v := .ref (a 53)) (C := RX11) (T := TX11) (N := 55) hx hb hts inX11 hown hK hP 0 rfl rfl 53 (Nat.le_of_ble_eq_true rfl) (hts _ mw_1212) (fun _ h9 => h9) rfl dX11_choose_164 ?_
                      refine lv_aload_n hx hb dX11_choose_167 rfl (lv_at hl 4 rfl) ?_
                      refine lv_aload_n hx hb dX11_choose_168 rfl (lv_at hl 4 rfl) ?_
                      refine va_get (D := (dC, dI)) (ci := 9) (v := .ref (a 12)) (C := RX11) (T := TX11) (N := 55) hx hb hts inX11 hown hK hP 0 rfl rfl 12 (Nat.le_of_ble_eq_true rfl) (hts _ mw_1171) (fun _ h9 => h9) rfl dX11_choose_169 ?_
                      refine lv_iload hx hb dX11_choose_172 (lv_at hl 0 rfl) ?_
                      have b9_12 : (40 * b9 + (nN (mn b9))) - 1 < 8040 := by omega
                      refine z_iald hx hb hK hP 12 0 rfl rfl (e := (40 * b9 + (nN (mn b9))) - 1) rfl b9_12 (Nat.le_of_ble_eq_true rfl) dX11_choose_174 ?_
                      refine lv_aload_n hx hb dX11_choose_175 rfl (lv_at hl 4 rfl) ?_
                      refine va_get (D := (dC, dI)) (ci := 9) (v := .ref (a 13)) (C := RX11) (T := TX11) (N := 55) hx hb hts inX11 hown hK hP 0 rfl rfl 13 (Nat.le_of_ble_eq_true rfl) (hts _ mw_1172) (fun _ h9 => h9) rfl dX11_choose_176 ?_
                      refine lv_iload hx hb dX11_choose_179 (lv_at hl 0 rfl) ?_
                      refine z_iald hx hb hK hP 13 0 rfl rfl (e := (40 * b9 + (nN (mn b9))) - 1) rfl b9_12 (Nat.le_of_ble_eq_true rfl) dX11_choose_181 ?_
                      obtain ⟨hPc, hDc, hFc⟩ := zo_sub (wc := [_, _, _, _]) hP hD hS hA [0, 26, 27, 28] (by decide +kernel) rfl
                      refine zcalle (va_runV (As := [.int (cx ((40 * b9 + (nN (mn b9))) - 1)), .int (cy ((40 * b9 + (nN (mn b9))) - 1))]) (rest := [.ref (a 53)]) ⟨hx, hb, hml, hown, hts⟩ (k_M_placeOf_u l dC dI cI cZ cF H.size k0 a (upd (upd I0 26 (nI ln)) 54 (nI pcA)) J0 (cx ((40 * b9 + (nN (mn b9))) - 1)) (cy ((40 * b9 + (nN (mn b9))) - 1)) pcA jxA jyA grA (by first | with_reducible assumption | omega)) (csV_227 hts rfl rfl ⟨Nat.le_of_ble_eq_true rfl, Nat.le_of_ble_eq_true rfl⟩) (zPV2 (q0 := 0) (ci := 9) hPc hDc hK hXN rfl rfl) rfl rfl hl.1 rfl (lv_room (Nat.le_of_ble_eq_true rfl)) dX11_choose_182 ⟨Nat.zero_le _, Nat.zero_le _⟩) hS hFc hFc (fun v9 t H locs ht hB hk1 hS => ?_)
                      obtain ⟨pcB, iB, jxB, jyB, grB, rfl, hB1, hB2, hB3, hB4, hP1, hD1⟩ := hB
                      refine W.eq (g2 := F0 m 185 ls [.int (nI iB), .ref (a 53)]) rfl ?_
                      rw [ht] at hP1
                      obtain ⟨hP, hD⟩ := zn (W2 := [(om k0 a (upd (upd I0 26 (nI ln)) 54 (nI pcB)) J0), _, _, _, _, _, _, _, _, _, _, _, _, _, _, _, _, _, _, _, _, _, _, _, _, _, (oa (a 51) cI 402 jxB), (oa (a 52) cI 402 jyB), (oa (a 53) cI 402 grB)]) hP hD hk1 hFc hP1 hD1 [0, 26, 27, 28] zl_99 zl_267 [0, 26, 27, 28] (by decide +kernel) rfl rfl rfl rfl rfl
                      clear hk1 hPc hDc hFc hP1 hD1 ht
                      have b9_13 : iB < 402 := by omega
                      refine z_iald hx hb hK hP 28 0 rfl rfl (e := iB) rfl b9_13 (Nat.le_of_ble_eq_true rfl) dX11_choose_185 ?_
                      refine lv_istore (lv' := [(5, .int (grB iB)), (4, .int (nI ((40 * b9 + (nN (mn b9))) - 1))), (3, .int (grA iA)), (2, .int zb), (1, .int (nI r9)), (0, .ref k0)]) hx hb dX11_choose_186 hl (Nat.le_of_ble_eq_true rfl) rfl (fun ls hl => ?_)
                      have hcA := chI_ad hcI (by omega) hA2 hA3 hA4
                      have hcB := chI_ad hcA (by omega) hB2 hB3 hB4
                      have hgA : grB iA = grA iA := (hB3 iA hA1.1).2.2
                      have hiA : iA < pcB := (by omega)
                      have eA : (fun i => (jxB i, jyB i)) iA = (chB cx cy) b9 := (by show (jxB iA, jyB iA) = _; rw [(hB3 iA hA1.1).1, (hB3 iA hA1.1).2.1]; exact hA2)
                      have hmq := chQ hRq_b9 hds.2 hcB hiA hB1.1 eA hB2
                      rw [hgA] at hmq
                      refine lv_aload_n hx hb dX11_choose_188 rfl (lv_at hl 5 rfl) ?_
                      refine va_get (D := (dC, dI)) (ci := 9) (v := .ref (a 50)) (C := RX11) (T := TX11) (N := 55) hx hb hts inX11 hown hK hP 0 rfl rfl 50 (Nat.le_of_ble_eq_true rfl) (hts _ mw_1209) (fun _ h9 => h9) rfl dX11_choose_189 ?_
                      refine lv_iload_n hx hb dX11_choose_192 rfl (lv_at hl 3 rfl) ?_
                      refine zz_i (v := nI b9) (hz9) ?_
                      refine lv_iload_n hx hb dX11_choose_193 rfl (lv_at hl 2 rfl) ?_
                      refine lv_iload hx hb dX11_choose_194 (lv_at hl 0 rfl) ?_
                      have hj_14 : W p l e ({ frames := 4, cells := c2 - cp, slots := 8192 * (c2 - cp), locals := 93 } : Room) s m ([.ref k0] : List Value).toArray below meth c H locs 0 0 Q9 (F0 m 204 ls [.int (pI ((chM (rdF ft st tn kd) (chW rk mn cx cy) (chB cx cy) (chL mn cx cy)) b9)), .int (nI b9), .ref (a 50)]) := by
                        refine z_zast hx hb hK hP hD hS 24 1 rfl rfl (e := b9) (x := pI ((chM (rdF ft st tn kd) (chW rk mn cx cy) (chB cx cy) (chL mn cx cy)) b9)) rfl b9_9 (Nat.le_of_ble_eq_true rfl) (zp_and _) dX11_choose_204 (fun H locs hP hD hS => ?_)
                        obtain ⟨hP, hD⟩ := zre (W2 := [_, _, _, _, _, _, _, _, _, _, _, _, _, _, _, _, _, _, _, _, _, _, _, _, (oa (a 50) cZ 201 (upd mk1 b9 (pI ((chM (rdF ft st tn kd) (chW rk mn cx cy) (chB cx cy) (chL mn cx cy)) b9)))), _, _, _, _]) hP hD rfl
                        refine lv_iconst (v := 0) hx hb dX11_choose_205 rfl ?_
                        refine lv_istore (lv' := [(6, .int 0), (5, .int (grB iB)), (4, .int (nI ((40 * b9 + (nN (mn b9))) - 1))), (3, .int (grA iA)), (2, .int zb), (1, .int (nI r9)), (0, .ref k0)]) hx hb dX11_choose_206 hl (Nat.le_of_ble_eq_true rfl) rfl (fun ls hl => ?_)
                        have hl_208 : ∀ (n9 : Nat) (k : Nat) (gr2 : Nat → Int32) (H : Heap) (locs : List Loc) (ls : Array Slot), pcB - k < n9 → (k ≤ pcB) → (∀ j, j < k → gr2 j = if grB j = grB iB then grA iA else grB j) → (∀ j, k ≤ j → gr2 j = grB j) → va_P (dC, dI) classes [(om k0 a (upd (upd I0 26 (nI ln)) 54 (nI pcB)) J0), (oa (a 1) cI 201 kd), (oa (a 5) cI 201 st), (oa (a 7) cI 201 gb), (oa (a 10) cI 201 it), (oa (a 8) cI 201 pa), (oa (a 9) cI 201 pb), (oa (a 2) cI 201 rk), (oa (a 3) cI 201 wd), (oa (a 4) cI 201 tw), (oa (a 6) cZ 201 tn), (oa (a 11) cI 201 mn), (oa (a 12) cI 8040 cx), (oa (a 13) cI 8040 cy), (oa (a 27) cI 516 sa), (oa (a 28) cI (4096 * cp) sh), (oa (a 16) cI 514 wh), (oa (a 17) cI 514 of9), (oa (a 18) cI 514 we), (oa (a 22) cI (64 * cl) la), (oa (a 23) cI (64 * cl) lb), (oa (a 24) cI (64 * cl) lc), (oa (a 25) cI (64 * cl) ld), (oa (a 32) cI 8 S2), (oa (a 50) cZ 201 (upd mk1 b9 (pI ((chM (rdF ft st tn kd) (chW rk mn cx cy) (chB cx cy) (chL mn cx cy)) b9)))), (oa (a 37) cZ 201 (upd mt1 b9 1)), (oa (a 51) cI 402 jxB), (oa (a 52) cI 402 jyB), (oa (a 53) cI 402 gr2)] H → va_D A [(om k0 a (upd (upd I0 26 (nI ln)) 54 (nI pcB)) J0), (oa (a 1) cI 201 kd), (oa (a 5) cI 201 st), (oa (a 7) cI 201 gb), (oa (a 10) cI 201 it), (oa (a 8) cI 201 pa), (oa (a 9) cI 201 pb), (oa (a 2) cI 201 rk), (oa (a 3) cI 201 wd), (oa (a 4) cI 201 tw), (oa (a 6) cZ 201 tn), (oa (a 11) cI 201 mn), (oa (a 12) cI 8040 cx), (oa (a 13) cI 8040 cy), (oa (a 27) cI 516 sa), (oa (a 28) cI (4096 * cp) sh), (oa (a 16) cI 514 wh), (oa (a 17) cI 514 of9), (oa (a 18) cI 514 we), (oa (a 22) cI (64 * cl) la), (oa (a 23) cI (64 * cl) lb), (oa (a 24) cI (64 * cl) lc), (oa (a 25) cI (64 * cl) ld), (oa (a 32) cI 8 S2), (oa (a 50) cZ 201 (upd mk1 b9 (pI ((chM (rdF ft st tn kd) (chW rk mn cx cy) (chB cx cy) (chL mn cx cy)) b9)))), (oa (a 37) cZ 201 (upd mt1 b9 1)), (oa (a 51) cI 402 jxB), (oa (a 52) cI 402 jyB), (oa (a 53) cI 402 gr2)] → va_S A s.heap H locs → lv_has ls 7 [(6, .int (nI k)), (5, .int (grB iB)), (4, .int (nI ((40 * b9 + (nN (mn b9))) - 1))), (3, .int (grA iA)), (2, .int zb), (1, .int (nI r9)), (0, .ref k0)] → W p l e ({ frames := 4, cells := c2 - cp, slots := 8192 * (c2 - cp), locals := 93 } : Room) s m ([.ref k0] : List Value).toArray below meth c H locs 0 0 Q9 (F0 m 208 ls []) := by
                          intro n9
                          induction n9 with
                          | zero => intro k gr2 H locs ls hm; exact absurd hm (Nat.not_lt_zero _)
                          | succ n9 ih_208 =>
                            intro k gr2 H locs ls hm hk9 hg1 hg2 hP hD hS hl
                            refine lv_iload hx hb dX11_choose_208 (lv_at hl 0 rfl) ?_
                            refine lv_aload_n hx hb dX11_choose_210 rfl (lv_at hl 6 rfl) ?_
                            refine va_get (D := (dC, dI)) (ci := 9) (v := .int (nI pcB)) (C := RX11) (T := TX11) (N := 55) hx hb hts inX11 hown hK hP 0 rfl rfl 54 (Nat.le_of_ble_eq_true rfl) (hts _ mw_1213) (fun _ h9 => h9) rfl dX11_choose_211 ?_
                            have b9_16 : zlt (k) := show k < 2147483648 by omega
                            have b9_17 : zlt (pcB) := show pcB < 2147483648 by omega
                            refine lv_icmp_ge (tgt := 253) hx hb dX11_choose_214 rfl (fun c_15 => ?_) (fun c_15 => ?_)
                            · have c_15 : ((pcB : Nat) : Int) ≤ ((k : Nat) : Int) := zc_le (nI_toInt b9_17) (nI_toInt b9_16) c_15
                              refine lv_iinc (v := nI (r9 + 1)) (lv' := [(1, .int (nI (r9 + 1))), (6, .int (nI k)), (5, .int (grB iB)), (4, .int (nI ((40 * b9 + (nN (mn b9))) - 1))), (3, .int (grA iA)), (2, .int zb), (0, .ref k0)]) hx hb dX11_choose_253 hl (k := 5) rfl (nI_add r9 1) (Nat.le_of_ble_eq_true rfl) rfl (fun ls hl => ?_)
                              refine lv_goto (tgt := 49) hx hb dX11_choose_256 rfl ?_
                              exact ih_49 (r9 + 1) pcB (fun j => D j ∨ j = b9) (upd mt1 b9 1) (upd mk1 b9 (pI ((chM (rdF ft st tn kd) (chW rk mn cx cy) (chB cx cy) (chL mn cx cy)) b9))) jxB jyB gr2 S2 H locs ls (by first | with_reducible assumption | omega) (by first | with_reducible assumption | omega) (hds.1) (Nat.lt_of_le_of_lt hDc (cntP_lt (fun j h => Or.inl h) hbk (Or.inr rfl) hDb)) (chT_s hmt) (chK_s hmk) (chI_un hcB hiA hB1.1 eA hB2 (fun k9 h9 => by rw [hgA]; exact hg1 k9 (by first | with_reducible assumption | omega))) (by first | with_reducible assumption | omega) hP hD hS (lv_sub hl [0, 6] rfl)
                            · have c_15 : ((k : Nat) : Int) < ((pcB : Nat) : Int) := zc_nle (nI_toInt b9_17) (nI_toInt b9_16) c_15
                              refine lv_aload_n hx hb dX11_choose_217 rfl (lv_at hl 6 rfl) ?_
                              refine va_get (D := (dC, dI)) (ci := 9) (v := .ref (a 53)) (C := RX11) (T := TX11) (N := 55) hx hb hts inX11 hown hK hP 0 rfl rfl 53 (Nat.le_of_ble_eq_true rfl) (hts _ mw_1212) (fun _ h9 => h9) rfl dX11_choose_218 ?_
                              refine lv_iload hx hb dX11_choose_221 (lv_at hl 0 rfl) ?_
                              refine lv_aload_n hx hb dX11_choose_223 rfl (lv_at hl 6 rfl) ?_
                              refine va_get (D := (dC, dI)) (ci := 9) (v := .ref (a 53)) (C := RX11) (T := TX11) (N := 55) hx hb hts inX11 hown hK hP 0 rfl rfl 53 (Nat.le_of_ble_eq_true rfl) (hts _ mw_1212) (fun _ h9 => h9) rfl dX11_choose_224 ?_
                              refine lv_iload hx hb dX11_choose_227 (lv_at hl 0 rfl) ?_
                              have b9_18 : k < 402 := by omega
                              refine z_iald hx hb hK hP 28 0 rfl rfl (e := k) rfl b9_18 (Nat.le_of_ble_eq_true rfl) dX11_choose_229 ?_
                              refine lv_iload hx hb dX11_choose_230 (lv_at hl 1 rfl) ?_
                              refine lv_icmp_ne (tgt := 239) hx hb dX11_choose_232 rfl (fun c_19 => ?_) (fun c_19 => ?_)
                              · have c_19 : ¬ (gr2 k).toInt = (grB iB).toInt := zc_ne rfl rfl c_19
                                refine lv_aload_n hx hb dX11_choose_239 rfl (lv_at hl 6 rfl) ?_
                                refine va_get (D := (dC, dI)) (ci := 9) (v := .ref (a 53)) (C := RX11) (T := TX11) (N := 55) hx hb hts inX11 hown hK hP 0 rfl rfl 53 (Nat.le_of_ble_eq_true rfl) (hts _ mw_1212) (fun _ h9 => h9) rfl dX11_choose_240 ?_
                                refine lv_iload hx hb dX11_choose_243 (lv_at hl 0 rfl) ?_
                                refine z_iald hx hb hK hP 28 0 rfl rfl (e := k) rfl b9_18 (Nat.le_of_ble_eq_true rfl) dX11_choose_245 ?_
                                refine z_iast hx hb hK hP hD hS 28 0 rfl rfl (e := k) (x := gr2 k) rfl b9_18 (Nat.le_of_ble_eq_true rfl) dX11_choose_246 (fun H locs hP hD hS => ?_)
                                obtain ⟨hP, hD⟩ := zre (W2 := [_, _, _, _, _, _, _, _, _, _, _, _, _, _, _, _, _, _, _, _, _, _, _, _, _, _, _, _, (oa (a 53) cI 402 (upd gr2 k (gr2 k)))]) hP hD rfl
                                refine lv_iinc (v := nI (k + 1)) (lv' := [(6, .int (nI (k + 1))), (5, .int (grB iB)), (4, .int (nI ((40 * b9 + (nN (mn b9))) - 1))), (3, .int (grA iA)), (2, .int zb), (1, .int (nI r9)), (0, .ref k0)]) hx hb dX11_choose_247 hl (k := 0) rfl (nI_add k 1) (Nat.le_of_ble_eq_true rfl) rfl (fun ls hl => ?_)
                                refine lv_goto (tgt := 208) hx hb dX11_choose_250 rfl ?_
                                exact ih_208 (k + 1) (upd gr2 k (gr2 k)) H locs ls (by first | with_reducible assumption | omega) (by first | with_reducible assumption | omega) (chG_s hg1 (hg2 k (Nat.le_refl _)) (by first | exact Or.inl ⟨by omega, rfl⟩ | exact Or.inr ⟨by omega, rfl⟩)) (fun j hj => by rw [show upd gr2 k _ j = gr2 j from if_neg (by first | with_reducible assumption | omega)]; exact hg2 j (by first | with_reducible assumption | omega)) hP hD hS (lv_sub hl [0, 1, 2, 3, 4, 5, 6] rfl)
                              · have c_19 : (gr2 k).toInt = (grB iB).toInt := zc_eq rfl rfl c_19
                                refine lv_iload_n hx hb dX11_choose_235 rfl (lv_at hl 3 rfl) ?_
                                refine lv_goto (tgt := 246) hx hb dX11_choose_236 rfl ?_
                                refine z_iast hx hb hK hP hD hS 28 0 rfl rfl (e := k) (x := grA iA) rfl b9_18 (Nat.le_of_ble_eq_true rfl) dX11_choose_246 (fun H locs hP hD hS => ?_)
                                obtain ⟨hP, hD⟩ := zre (W2 := [_, _, _, _, _, _, _, _, _, _, _, _, _, _, _, _, _, _, _, _, _, _, _, _, _, _, _, _, (oa (a 53) cI 402 (upd gr2 k (grA iA)))]) hP hD rfl
                                refine lv_iinc (v := nI (k + 1)) (lv' := [(6, .int (nI (k + 1))), (5, .int (grB iB)), (4, .int (nI ((40 * b9 + (nN (mn b9))) - 1))), (3, .int (grA iA)), (2, .int zb), (1, .int (nI r9)), (0, .ref k0)]) hx hb dX11_choose_247 hl (k := 0) rfl (nI_add k 1) (Nat.le_of_ble_eq_true rfl) rfl (fun ls hl => ?_)
                                refine lv_goto (tgt := 208) hx hb dX11_choose_250 rfl ?_
                                exact ih_208 (k + 1) (upd gr2 k (grA iA)) H locs ls (by first | with_reducible assumption | omega) (by first | with_reducible assumption | omega) (chG_s hg1 (hg2 k (Nat.le_refl _)) (by first | exact Or.inl ⟨by omega, rfl⟩ | exact Or.inr ⟨by omega, rfl⟩)) (fun j hj => by rw [show upd gr2 k _ j = gr2 j from if_neg (by first | with_reducible assumption | omega)]; exact hg2 j (by first | with_reducible assumption | omega)) hP hD hS (lv_sub hl [0, 1, 2, 3, 4, 5, 6] rfl)
                        exact hl_208 _ 0 grB H locs ls (Nat.lt_succ_self _) (by first | with_reducible assumption | omega) (by intro j hj; omega) (fun j hj => rfl) hP hD hS (lv_sub hl [0, 1, 2, 3, 4, 5, 6] rfl)
                      refine lv_icmp_ne (tgt := 203) hx hb dX11_choose_196 rfl (fun c_20 => ?_) (fun c_20 => ?_)
                      · have c_20 : ¬ (grA iA).toInt = (grB iB).toInt := zc_ne rfl rfl c_20
                        refine lv_iconst (v := 0) hx hb dX11_choose_203 rfl ?_
                        refine zz_i (v := pI ((chM (rdF ft st tn kd) (chW rk mn cx cy) (chB cx cy) (chL mn cx cy)) b9)) (by first | exact (zp_t (hmq.mpr (by omega))).symm | exact (zp_f (fun h => absurd (hmq.mp h) (by omega))).symm) ?_
                        exact hj_14 
                      · have c_20 : (grA iA).toInt = (grB iB).toInt := zc_eq rfl rfl c_20
                        refine lv_iconst (v := 1) hx hb dX11_choose_199 rfl ?_
                        refine lv_goto (tgt := 204) hx hb dX11_choose_200 rfl ?_
                        refine zz_i (v := pI ((chM (rdF ft st tn kd) (chW rk mn cx cy) (chB cx cy) (chL mn cx cy)) b9)) (by first | exact (zp_t (hmq.mpr (by omega))).symm | exact (zp_f (fun h => absurd (hmq.mp h) (by omega))).symm) ?_
                        exact hj_14 
                    · have c_8 : zb.toInt = (-1) := zc_eq rfl rfl c_8
                      refine lv_goto (tgt := 259) hx hb dX11_choose_110 rfl ?_
                      have hall : ∀ j, j < ft → (rdF ft st tn kd) j → D j := (by first | exact (fun j hj _ => cntP_all (by omega) j hj) | exact fun j hj hR => (bst_no hat (by omega) (by omega) j (by omega)).resolve_left (fun h => h hR))
                      have hmkF : ∀ j, j < ft → mk1 j = pI ((chM (rdF ft st tn kd) (chW rk mn cx cy) (chB cx cy) (chL mn cx cy)) j) := fun j hj => (by rw [hmk j hj]; exact zp_iff ⟨fun h => h.2, fun h => ⟨hall j hj h.1, h⟩⟩)
                      refine lv_aload_n hx hb dX11_choose_259 rfl (lv_at hl 3 rfl) ?_
                      refine lv_bipush (v := 9) hx hb dX11_choose_260 rfl ?_
                      obtain ⟨hPc, hDc, hFc⟩ := zo_sub (wc := [_, _, _, _, _, _, _, _, _, _, _, _, _, _, _, _, _, _, _, _, _, _, _, _]) hP hD hS hA [0, 1, 2, 3, 4, 5, 6, 7, 8, 9, 10, 11, 12, 13, 14, 15, 16, 17, 18, 19, 20, 21, 22, 24] (by decide +kernel) rfl
                      refine zcall (st1 := [.int (nI (cntP (chM (rdF ft st tn kd) (chW rk mn cx cy) (chB cx cy) (chL mn cx cy)) ft))]) (va_runV (As := [.int 9]) (rest := []) ⟨hx, hb, hml, hown, hts⟩ (k_M_dropMarked_y l dC dI cI cZ cF H.size k0 a (upd (upd I0 26 (nI ln)) 54 (nI pcn)) J0 9 ft dn bs w0 cp c1 c2 ln cl kd st gb it pa pb rk wd tw tn mn cx cy sa sh wh of9 we la lb lc ld mk1 (chM (rdF ft st tn kd) (chW rk mn cx cy) (chB cx cy) (chL mn cx cy)) (hft) (by first | with_reducible assumption | omega) (hmkF) (fun j hj h => h.1.1.2.1) (hz) (hdn) (hbs) (by first | with_reducible assumption | omega) (by first | with_reducible assumption | omega) (hlc) (hcl1) (hclm) (hi5_1) (hsa_1) (hmn_1) (hc1_1) (hpw_1) (hw0_1) (hfit_1) (hmin_1) (hcE_1) (hpw_2) (hfit_2) (hmin_2) (hcE_2)) (csV_219 hts rfl rfl ⟨Nat.le_of_ble_eq_true rfl, Nat.le_of_ble_eq_true rfl⟩) (zPV2 (q0 := 0) (ci := 9) hPc hDc hK hXN rfl rfl) rfl rfl hl.1 rfl (lv_room (Nat.le_of_ble_eq_true rfl)) dX11_choose_262 ⟨show (0 + (c2 - cp)) ≤ c2 - cp by omega, show (0 + (8192 * (c2 - cp))) ≤ 8192 * (c2 - cp) by omega⟩) hS hFc hFc rfl (fun t H locs ht hB hk1 hS => ?_)
                      refine ex7 hB (fun b2 sh2 t9 la1 lb1 lc1 ld1 hB0 => ?_)
                      clear hB
                      obtain ⟨p0, p1, p2, p3, p4, p5, p6, hP1, hD1⟩ := hB0
                      rw [ht] at hP1
                      obtain ⟨hP, hD⟩ := zn (W2 := [_, _, _, _, _, (om k0 (va_up a 28 b2) (upd (upd (upd (upd (upd (upd I0 14 0) 19 (nI (dn + 1))) 20 0) 26 (nI t9)) 41 (nI (psN (nnF (gnA (chM (rdF ft st tn kd) (chW rk mn cx cy) (chB cx cy) (chL mn cx cy)) ft 2 st) tn mn) (psN (nnF st tn mn) w0 ft) ft))) 54 (nI pcn)) J0), (oa (a 1) cI 201 kd), (oa (a 5) cI 201 (gnA (chM (rdF ft st tn kd) (chW rk mn cx cy) (chB cx cy) (chL mn cx cy)) ft 2 st)), (oa (a 7) cI 201 (gnA (chM (rdF ft st tn kd) (chW rk mn cx cy) (chB cx cy) (chL mn cx cy)) ft (nI (dn + 1)) gb)), (oa (a 10) cI 201 (gnA (chM (rdF ft st tn kd) (chW rk mn cx cy) (chB cx cy) (chL mn cx cy)) ft (-1 : Int32) it)), (oa (a 8) cI 201 pa), (oa (a 9) cI 201 pb), (oa (a 2) cI 201 rk), (oa (a 3) cI 201 wd), (oa (a 4) cI 201 tw), (oa (a 6) cZ 201 tn), (oa (a 11) cI 201 mn), (oa (a 12) cI 8040 cx), (oa (a 13) cI 8040 cy), (oa (a 27) cI 516 (upd (upd sa (dn - bs + 1) (nI (psN (nnF st tn mn) w0 ft))) (dn + 1 - bs + 1) (nI (psN (nnF (gnA (chM (rdF ft st tn kd) (chW rk mn cx cy) (chB cx cy) (chL mn cx cy)) ft 2 st) tn mn) (psN (nnF st tn mn) w0 ft) ft)))), (oa b2 cI (4096 * c2) sh2), (oa (a 16) cI 514 (upd wh (dn + 1) (9 : Int32))), (oa (a 17) cI 514 (upd of9 (dn + 1) (-1 : Int32))), (oa (a 18) cI 514 (upd we (dn + 1) (nI (cntP (chM (rdF ft st tn kd) (chW rk mn cx cy) (chB cx cy) (chL mn cx cy)) ft)))), (oa (a 22) cI (64 * cl) la1), (oa (a 23) cI (64 * cl) lb1), (oa (a 24) cI (64 * cl) lc1), (oa (a 25) cI (64 * cl) ld1), (oa (a 50) cZ 201 mk1)]) hP hD hk1 hFc hP1 hD1 zl_263 zl_264 zl_265 zl_266 (by decide +kernel) rfl rfl rfl rfl rfl
                      clear hk1 hPc hDc hFc hP1 hD1 ht
                      obtain ⟨hP9, hD9⟩ := zq_sub (wc := [_, _, _, _, _, _, _, _, _, _, _, _, _, _, _, _, _, _, _, _, _, _, _, _, _, _, _, _, _]) hP hD [5, 6, 7, 8, 9, 10, 11, 12, 13, 14, 15, 16, 17, 18, 19, 20, 21, 22, 23, 24, 25, 26, 27, 0, 28, 1, 2, 3, 4] rfl rfl
                      refine W.widen (k := c2 - cp) (n := 8192 * (c2 - cp)) (by omega) (by omega) ?_
                      rw [hQ9]
                      exact W.iret (v := nI (cntP (chM (rdF ft st tn kd) (chW rk mn cx cy) (chB cx cy) (chL mn cx cy)) ft)) hx hb hr (fun t ht hW => ⟨⟨rfl, b2, sh2, t9, la1, lb1, lc1, ld1, pcn, S2, mk1, mt1, jx1, jy1, gr1, (p0), (p1), (p2), (p3), (p4), (p5), (p6), by rw [ht]; exact hP9, hD9⟩, hS.F ht⟩) hS.2.2 dX11_choose_265
                  · have c_6 : ((q : Nat) : Int) < ((ft : Nat) : Int) := zc_nle (nI_toInt b9_3) (nI_toInt b9_7) c_6
                    refine lv_aload_n hx hb dX11_choose_69 rfl (lv_at hl 3 rfl) ?_
                    refine va_get (D := (dC, dI)) (ci := 9) (v := .ref (a 37)) (C := RX11) (T := TX11) (N := 55) hx hb hts inX11 hown hK hP 0 rfl rfl 37 (Nat.le_of_ble_eq_true rfl) (hts _ mw_1196) (fun _ h9 => h9) rfl dX11_choose_70 ?_
                    refine lv_iload_n hx hb dX11_choose_73 rfl (lv_at hl 0 rfl) ?_
                    have b9_21 : q < 201 := by omega
                    refine z_zald hx hb hK hP 25 1 rfl rfl (e := q) rfl b9_21 (Nat.le_of_ble_eq_true rfl) dX11_choose_74 ?_
                    refine zz_i (v := pI (¬ (rdF ft st tn kd) q ∨ D q)) (hmt q (by omega)) ?_
                    refine lv_if_ne (tgt := 99) hx hb dX11_choose_75 rfl (fun c_22 => ?_) (fun c_22 => ?_)
                    · have c_22 : ¬ (rdF ft st tn kd) q ∨ D q := zp_1 c_22
                      refine lv_iinc (v := nI (q + 1)) (lv' := [(3, .int (nI (q + 1))), (2, .int zb), (1, .int (nI r9)), (0, .ref k0)]) hx hb dX11_choose_99 hl (k := 0) rfl (nI_add q 1) (Nat.le_of_ble_eq_true rfl) rfl (fun ls hl => ?_)
                      refine lv_goto (tgt := 61) hx hb dX11_choose_102 rfl ?_
                      exact ih_61 (q + 1) zb S2 H locs ls (by first | with_reducible assumption | omega) (by first | with_reducible assumption | omega) (by first | exact bst_f hat (by first | with_reducible assumption | assumption) | exact bst_n hat (by first | with_reducible assumption | omega) (by first | with_reducible assumption | omega) (by first | with_reducible assumption | assumption) | exact bst_l hz9 hbk hbF hbm (by first | with_reducible assumption | assumption) (by first | with_reducible assumption | omega) | exact bst_g hz9 hbk hbF hbm (by first | with_reducible assumption | omega)) hP hD hS (lv_sub hl [0, 1, 2, 3] rfl)
                    · have c_22 : ¬ (¬ (rdF ft st tn kd) q ∨ D q) := zp_0 c_22
                      refine lv_iload_n hx hb dX11_choose_78 rfl (lv_at hl 1 rfl) ?_
                      refine lv_iconst (v := (-1)) hx hb dX11_choose_79 rfl ?_
                      refine lv_icmp_eq (tgt := 97) hx hb dX11_choose_80 rfl (fun c_23 => ?_) (fun c_23 => ?_)
                      · have c_23 : zb.toInt = (-1) := zc_eq rfl rfl c_23
                        refine lv_iload_n hx hb dX11_choose_97 rfl (lv_at hl 0 rfl) ?_
                        refine lv_istore_n (lv' := [(2, .int (nI q)), (3, .int (nI q)), (1, .int (nI r9)), (0, .ref k0)]) hx hb dX11_choose_98 rfl hl (Nat.le_of_ble_eq_true rfl) rfl (fun ls hl => ?_)
                        refine lv_iinc (v := nI (q + 1)) (lv' := [(3, .int (nI (q + 1))), (2, .int (nI q)), (1, .int (nI r9)), (0, .ref k0)]) hx hb dX11_choose_99 hl (k := 1) rfl (nI_add q 1) (Nat.le_of_ble_eq_true rfl) rfl (fun ls hl => ?_)
                        refine lv_goto (tgt := 61) hx hb dX11_choose_102 rfl ?_
                        exact ih_61 (q + 1) (nI q) S2 H locs ls (by first | with_reducible assumption | omega) (by first | with_reducible assumption | omega) (by first | exact bst_f hat (by first | with_reducible assumption | assumption) | exact bst_n hat (by first | with_reducible assumption | omega) (by first | with_reducible assumption | omega) (by first | with_reducible assumption | assumption) | exact bst_l hz9 hbk hbF hbm (by first | with_reducible assumption | assumption) (by first | with_reducible assumption | omega) | exact bst_g hz9 hbk hbF hbm (by first | with_reducible assumption | omega)) hP hD hS (lv_sub hl [0, 1, 2, 3] rfl)
                      · have c_23 : ¬ zb.toInt = (-1) := zc_ne rfl rfl c_23
                        have hRq_q : (rdF ft st tn kd) q := (Classical.byContradiction fun h => (show ¬ (¬ (rdF ft st tn kd) q ∨ D q) by assumption) (Or.inl h))
                        have hw_q := hwf q hRq_q.1
                        have hn_q := hw_q.2.1
                        have hk_q := hrk q hRq_q.1
                        have hc_q := chW_b hk_q hw_q
                        refine lv_aload_n hx hb dX11_choose_83 rfl (lv_at hl 3 rfl) ?_
                        refine lv_iload_n hx hb dX11_choose_84 rfl (lv_at hl 0 rfl) ?_
                        obtain ⟨hPc, hDc, hFc⟩ := zo_sub (wc := [_, _, _, _, _, _]) hP hD hS hA [0, 7, 11, 12, 13, 23] (by decide +kernel) rfl
                        refine zcall (st1 := [.long (jI (((rk q).toInt + 1) * ((ln2 (cF40 cx q) (cF40 cy q) ((nN (mn q)) - 1) : Nat) : Int)))]) (va_runV (As := [.int (nI q)]) (rest := []) ⟨hx, hb, hml, hown, hts⟩ (k_M_weight l dC dI cI cZ cF H.size k0 a (upd (upd I0 26 (nI ln)) 54 (nI pcn)) J0 q (nN (mn q)) rk mn cx cy S2 (by first | with_reducible assumption | omega) (hw_q.1) (hw_q.2.1) (hw_q.2.2) (hk_q)) (csV_228 hts rfl rfl ⟨Nat.le_of_ble_eq_true rfl, Nat.le_of_ble_eq_true rfl⟩) (zPV2 (q0 := 0) (ci := 9) hPc hDc hK hXN rfl rfl) rfl rfl hl.1 rfl (lv_room (Nat.le_of_ble_eq_true rfl)) dX11_choose_85 ⟨Nat.zero_le _, Nat.zero_le _⟩) hS hFc hFc rfl (fun t H locs ht hB hk1 hS => ?_)
                        obtain ⟨S3, hP1, hD1⟩ := hB
                        rw [ht] at hP1
                        obtain ⟨hP, hD⟩ := zn (W2 := [_, _, _, _, _, _, _, _, _, _, _, _, _, _, _, _, _, _, _, _, _, _, _, (oa (a 32) cI 8 S3), _, _, _, _, _]) hP hD hk1 hFc hP1 hD1 [0, 7, 11, 12, 13, 23] zl_268 zl_268 [0, 7, 11, 12, 13, 23] (by decide +kernel) rfl rfl rfl rfl rfl
                        clear hk1 hPc hDc hFc hP1 hD1 ht
                        refine zz_l (v := jI ((chW rk mn cx cy q : Nat) : Int)) (chW_e hk_q) ?_
                        refine lv_aload_n hx hb dX11_choose_88 rfl (lv_at hl 3 rfl) ?_
                        obtain ⟨b9, hz9, hbk, hbF, hbm⟩ := bst_get hat (by omega)
                        have hRq_b9 : (rdF ft st tn kd) b9 := (Classical.byContradiction fun h => hbF (Or.inl h))
                        have hw_b9 := hwf b9 hRq_b9.1
                        have hn_b9 := hw_b9.2.1
                        have hk_b9 := hrk b9 hRq_b9.1
                        have hc_b9 := chW_b hk_b9 hw_b9
                        refine lv_iload_n hx hb dX11_choose_89 rfl (lv_at hl 1 rfl) ?_
                        refine zz_i (v := nI b9) (hz9) ?_
                        obtain ⟨hPc, hDc, hFc⟩ := zo_sub (wc := [_, _, _, _, _, _]) hP hD hS hA [0, 7, 11, 12, 13, 23] (by decide +kernel) rfl
                        refine zcall (st1 := [.long (jI (((rk b9).toInt + 1) * ((ln2 (cF40 cx b9) (cF40 cy b9) ((nN (mn b9)) - 1) : Nat) : Int))), .long (jI ((chW rk mn cx cy q : Nat) : Int))]) (va_runV (As := [.int (nI b9)]) (rest := [.long (jI ((chW rk mn cx cy q : Nat) : Int))]) ⟨hx, hb, hml, hown, hts⟩ (k_M_weight l dC dI cI cZ cF H.size k0 a (upd (upd I0 26 (nI ln)) 54 (nI pcn)) J0 b9 (nN (mn b9)) rk mn cx cy S3 (by first | with_reducible assumption | omega) (hw_b9.1) (hw_b9.2.1) (hw_b9.2.2) (hk_b9)) (csV_228 hts rfl rfl ⟨Nat.le_of_ble_eq_true rfl, Nat.le_of_ble_eq_true rfl⟩) (zPV2 (q0 := 0) (ci := 9) hPc hDc hK hXN rfl rfl) rfl rfl hl.1 rfl (lv_room (Nat.le_of_ble_eq_true rfl)) dX11_choose_90 ⟨Nat.zero_le _, Nat.zero_le _⟩) hS hFc hFc rfl (fun t H locs ht hB hk1 hS => ?_)
                        obtain ⟨S4, hP1, hD1⟩ := hB
                        rw [ht] at hP1
                        obtain ⟨hP, hD⟩ := zn (W2 := [_, _, _, _, _, _, _, _, _, _, _, _, _, _, _, _, _, _, _, _, _, _, _, (oa (a 32) cI 8 S4), _, _, _, _, _]) hP hD hk1 hFc hP1 hD1 [0, 7, 11, 12, 13, 23] zl_268 zl_268 [0, 7, 11, 12, 13, 23] (by decide +kernel) rfl rfl rfl rfl rfl
                        clear hk1 hPc hDc hFc hP1 hD1 ht
                        refine zz_l (v := jI ((chW rk mn cx cy b9 : Nat) : Int)) (chW_e hk_b9) ?_
                        refine W.lcmp hx hb dX11_choose_93 ?_
                        refine lv_if_ge (tgt := 99) hx hb dX11_choose_94 rfl (fun c_24 => ?_) (fun c_24 => ?_)
                        · have c_24 : ((chW rk mn cx cy b9 : Nat) : Int) ≤ ((chW rk mn cx cy q : Nat) : Int) := zl_ge (jI_toInt (by omega)) (jI_toInt (by omega)) c_24
                          refine lv_iinc (v := nI (q + 1)) (lv' := [(3, .int (nI (q + 1))), (2, .int zb), (1, .int (nI r9)), (0, .ref k0)]) hx hb dX11_choose_99 hl (k := 0) rfl (nI_add q 1) (Nat.le_of_ble_eq_true rfl) rfl (fun ls hl => ?_)
                          refine lv_goto (tgt := 61) hx hb dX11_choose_102 rfl ?_
                          exact ih_61 (q + 1) zb S4 H locs ls (by first | with_reducible assumption | omega) (by first | with_reducible assumption | omega) (by first | exact bst_f hat (by first | with_reducible assumption | assumption) | exact bst_n hat (by first | with_reducible assumption | omega) (by first | with_reducible assumption | omega) (by first | with_reducible assumption | assumption) | exact bst_l hz9 hbk hbF hbm (by first | with_reducible assumption | assumption) (by first | with_reducible assumption | omega) | exact bst_g hz9 hbk hbF hbm (by first | with_reducible assumption | omega)) hP hD hS (lv_sub hl [0, 1, 2, 3] rfl)
                        · have c_24 : ((chW rk mn cx cy q : Nat) : Int) < ((chW rk mn cx cy b9 : Nat) : Int) := zl_nge (jI_toInt (by omega)) (jI_toInt (by omega)) c_24
                          refine lv_iload_n hx hb dX11_choose_97 rfl (lv_at hl 0 rfl) ?_
                          refine lv_istore_n (lv' := [(2, .int (nI q)), (3, .int (nI q)), (1, .int (nI r9)), (0, .ref k0)]) hx hb dX11_choose_98 rfl hl (Nat.le_of_ble_eq_true rfl) rfl (fun ls hl => ?_)
                          refine lv_iinc (v := nI (q + 1)) (lv' := [(3, .int (nI (q + 1))), (2, .int (nI q)), (1, .int (nI r9)), (0, .ref k0)]) hx hb dX11_choose_99 hl (k := 1) rfl (nI_add q 1) (Nat.le_of_ble_eq_true rfl) rfl (fun ls hl => ?_)
                          refine lv_goto (tgt := 61) hx hb dX11_choose_102 rfl ?_
                          exact ih_61 (q + 1) (nI q) S4 H locs ls (by first | with_reducible assumption | omega) (by first | with_reducible assumption | omega) (by first | exact bst_f hat (by first | with_reducible assumption | assumption) | exact bst_n hat (by first | with_reducible assumption | omega) (by first | with_reducible assumption | omega) (by first | with_reducible assumption | assumption) | exact bst_l hz9 hbk hbF hbm (by first | with_reducible assumption | assumption) (by first | with_reducible assumption | omega) | exact bst_g hz9 hbk hbF hbm (by first | with_reducible assumption | omega)) hP hD hS (lv_sub hl [0, 1, 2, 3] rfl)
              exact hl_61 _ 0 (-1) S1 H locs ls (Nat.lt_succ_self _) (by first | with_reducible assumption | omega) (bst_0 _ _) hP hD hS (lv_sub hl [0, 1, 2, 3] rfl)
        exact hl_49 _ 0 0 (fun _ => False) mt0 mk0 jx jy gr S0 H locs ls (Nat.lt_succ_self _) (by first | with_reducible assumption | omega) (chD_0 _ _) (Nat.zero_le _) (fun j hj => ht0 j (by first | with_reducible assumption | omega)) (fun j hj => hm0 j (by first | with_reducible assumption | omega)) (chI_0 _ _ _ _) (by first | with_reducible assumption | omega) hP hD hS (lv_sub hl [0, 1] rfl)
      · have c_1 : ((q : Nat) : Int) < ((ft : Nat) : Int) := zc_nle (nI_toInt b9_3) (nI_toInt b9_2) c_1
        refine lv_aload_n hx hb dX11_choose_15 rfl (lv_at hl 1 rfl) ?_
        refine va_get (D := (dC, dI)) (ci := 9) (v := .ref (a 50)) (C := RX11) (T := TX11) (N := 55) hx hb hts inX11 hown hK hP 0 rfl rfl 50 (Nat.le_of_ble_eq_true rfl) (hts _ mw_1209) (fun _ h9 => h9) rfl dX11_choose_16 ?_
        refine lv_iload_n hx hb dX11_choose_19 rfl (lv_at hl 0 rfl) ?_
        refine lv_iconst (v := 0) hx hb dX11_choose_20 rfl ?_
        have b9_25 : q < 201 := by omega
        refine z_zast hx hb hK hP hD hS 24 1 rfl rfl (e := q) (x := 0) rfl b9_25 (Nat.le_of_ble_eq_true rfl) (by decide) dX11_choose_21 (fun H locs hP hD hS => ?_)
        obtain ⟨hP, hD⟩ := zre (W2 := [_, _, _, _, _, _, _, _, _, _, _, _, _, _, _, _, _, _, _, _, _, _, _, _, (oa (a 50) cZ 201 (upd mk0 q 0)), _, _, _, _]) hP hD rfl
        refine lv_aload_n hx hb dX11_choose_22 rfl (lv_at hl 1 rfl) ?_
        refine va_get (D := (dC, dI)) (ci := 9) (v := .ref (a 37)) (C := RX11) (T := TX11) (N := 55) hx hb hts inX11 hown hK hP 0 rfl rfl 37 (Nat.le_of_ble_eq_true rfl) (hts _ mw_1196) (fun _ h9 => h9) rfl dX11_choose_23 ?_
        refine lv_iload_n hx hb dX11_choose_26 rfl (lv_at hl 0 rfl) ?_
        refine lv_aload_n hx hb dX11_choose_27 rfl (lv_at hl 1 rfl) ?_
        refine lv_iload_n hx hb dX11_choose_28 rfl (lv_at hl 0 rfl) ?_
        obtain ⟨hPc, hDc, hFc, hI1⟩ := zi_sub (wc := [_, _, _, _]) hP hD hS hA [0, 2, 10, 1] (by decide +kernel) rfl
        refine zcall (st1 := [.int (pI (lvF ft st tn q ∧ (kd q).toInt = 3)), .int (nI q), .ref (a 37)]) (va_runV (As := [.int (nI q)]) (rest := [.int (nI q), .ref (a 37)]) ⟨hx, hb, hml, hown, hts⟩ (k_M_isRoad l dC dI cI cZ cF H.size k0 a (upd (upd I0 26 (nI ln)) 54 0) J0 q ft st tn kd (by first | with_reducible assumption | assumption) (by first | with_reducible assumption | omega) (by first | with_reducible assumption | omega)) (csV_229 hts rfl rfl ⟨Nat.le_of_ble_eq_true rfl, Nat.le_of_ble_eq_true rfl⟩) (zPV2 (q0 := 0) (ci := 9) hPc hDc hK hXN rfl rfl) rfl rfl hl.1 rfl (lv_room (Nat.le_of_ble_eq_true rfl)) dX11_choose_29 ⟨Nat.zero_le _, Nat.zero_le _⟩) hS hFc hFc rfl (fun t H locs ht hB hk1 hS => ?_)
        obtain ⟨hP1, hD1⟩ := hB
        rw [ht] at hP1
        replace hP := z0 hP hD hk1 hP1 hI1
        clear hk1 hPc hDc hFc hP1 hD1 ht hI1
        have hj_26 : W p l e ({ frames := 4, cells := c2 - cp, slots := 8192 * (c2 - cp), locals := 93 } : Room) s m ([.ref k0] : List Value).toArray below meth c H locs 0 0 Q9 (F0 m 40 ls [.int (pI (¬ (rdF ft st tn kd) q)), .int (nI q), .ref (a 37)]) := by
          refine z_zast hx hb hK hP hD hS 25 1 rfl rfl (e := q) (x := pI (¬ (rdF ft st tn kd) q)) rfl b9_25 (Nat.le_of_ble_eq_true rfl) (zp_and _) dX11_choose_40 (fun H locs hP hD hS => ?_)
          obtain ⟨hP, hD⟩ := zre (W2 := [_, _, _, _, _, _, _, _, _, _, _, _, _, _, _, _, _, _, _, _, _, _, _, _, _, (oa (a 37) cZ 201 (upd mt0 q (pI (¬ (rdF ft st tn kd) q)))), _, _, _]) hP hD rfl
          refine lv_iinc (v := nI (q + 1)) (lv' := [(1, .int (nI (q + 1))), (0, .ref k0)]) hx hb dX11_choose_41 hl (k := 0) rfl (nI_add q 1) (Nat.le_of_ble_eq_true rfl) rfl (fun ls hl => ?_)
          refine lv_goto (tgt := 7) hx hb dX11_choose_44 rfl ?_
          exact ih_7 (q + 1) (upd mk0 q 0) (upd mt0 q (pI (¬ (rdF ft st tn kd) q))) H locs ls (by first | with_reducible assumption | omega) (by first | with_reducible assumption | omega) (by intro j hj; rcases Nat.lt_or_ge j q with h | h; (rw [show upd mk0 q 0 j = mk0 j from if_neg (by first | with_reducible assumption | omega)]; exact hm0 j h); (rw [show j = q by omega, up_at]; exact (zp_f (fun h => h.1)).symm)) (by intro j hj; rcases Nat.lt_or_ge j q with h | h; (rw [show upd mt0 q _ j = mt0 j from if_neg (by first | with_reducible assumption | omega)]; exact ht0 j h); (rw [show j = q by omega, up_at]; exact zp_iff ⟨Or.inl, fun h => h.resolve_right id⟩)) hP hD hS (lv_sub hl [0, 1] rfl)
        refine lv_if_ne (tgt := 39) hx hb dX11_choose_32 rfl (fun c_27 => ?_) (fun c_27 => ?_)
        · have c_27 : lvF ft st tn q ∧ (kd q).toInt = 3 := zp_1 c_27
          refine lv_iconst (v := 0) hx hb dX11_choose_39 rfl ?_
          refine zz_i (v := pI (¬ (rdF ft st tn kd) q)) (by first | exact (zp_t (by first | with_reducible assumption | assumption)).symm | exact (zp_f (fun h => h (by first | with_reducible assumption | assumption))).symm) ?_
          exact hj_26 
        · have c_27 : ¬ (lvF ft st tn q ∧ (kd q).toInt = 3) := zp_0 c_27
          refine lv_iconst (v := 1) hx hb dX11_choose_35 rfl ?_
          refine lv_goto (tgt := 40) hx hb dX11_choose_36 rfl ?_
          refine zz_i (v := pI (¬ (rdF ft st tn kd) q)) (by first | exact (zp_t (by first | with_reducible assumption | assumption)).symm | exact (zp_f (fun h => h (by first | with_reducible assumption | assumption))).symm) ?_
          exact hj_26 
  exact hl_7 _ 0 mk mt H locs ls (Nat.lt_succ_self _) (by first | with_reducible assumption | omega) (by intro j hj; omega) (by intro j hj; omega) hP hD hS (lv_sub hl [0, 1] rfl)
end
section
set_option maxHeartbeats 4000000 in
set_option maxRecDepth 100000 in
theorem k_M_isClash (l : Launch) (dC : Nat → ClassId) (dI : Nat → Nat → Nat) (cI cZ cF : ClassId) (sz : Nat) (k0 : Nat) (a : Nat → Nat) (I0 : Nat → Int32) (J0 : Nat → Int64) (f : Nat) (g : Nat) (ft : Nat) (gp9 : Int32) (st : Nat → Int32) (tn : Nat → Int32) (kd : Nat → Int32) (mn : Nat → Int32) (cx : Nat → Int32) (cy : Nat → Int32) (S0 : Nat → Int32) (wd : Nat → Int32) (hft : I0 0 = nI ft) (h200 : ft ≤ 200) (hwf : ∀ q, lvF ft st tn q → wfM mn cx cy q) (hef : ∀ q, lvF ft st tn q → 1 ≤ eO (kd q).toInt (nN (mn q))) (hwd : ∀ q, q < ft → 0 ≤ (wd q).toInt ∧ (wd q).toInt ≤ 100) (hgp : 0 ≤ gp9.toInt ∧ gp9.toInt ≤ 200) (hf_t : f < ft) (hg_t : g < ft) : zM l yX11_isClash cX11_isClash 6 (some .boolean) ({ frames := 5, cells := 0, slots := 0, locals := 129 } : Room) [.ref k0, .int (nI f), .int (nI g), .int gp9] (dC, dI) (zTy cI cZ cF) [(om k0 a I0 J0), (oa (a 5) cI 201 st), (oa (a 6) cZ 201 tn), (oa (a 1) cI 201 kd), (oa (a 11) cI 201 mn), (oa (a 12) cI 8040 cx), (oa (a 13) cI 8040 cy), (oa (a 32) cI 8 S0), (oa (a 3) cI 201 wd)] sz (some (.int (pI (clP ft st tn kd mn cx cy wd gp9 f g)))) (fun A t => ∃ (u9 : Int64), ∃ (d9 : Int64), ∃ (S1 : Nat → Int32), zPD (dC, dI) classes A [(om k0 a I0 (vp_updL (vp_updL J0 48 u9) 49 d9)), (oa (a 5) cI 201 st), (oa (a 6) cZ 201 tn), (oa (a 1) cI 201 kd), (oa (a 11) cI 201 mn), (oa (a 12) cI 8040 cx), (oa (a 13) cI 8040 cy), (oa (a 32) cI 8 S1), (oa (a 3) cI 201 wd)] t.heap) 0 0 := by
  refine zIn (own := "ScaleShopModel") (loc := [(0, .ref k0), (1, .int (nI f)), (2, .int (nI g)), (3, .int gp9)]) rfl rfl rfl rfl (fun p e s m below meth c hx hb hr hts hown hlocks hml hnm9 A hA hS hP hD hK hXN Q9 hQ9 ls hl => ?_)
  refine lv_aload_n hx hb dX11_isClash_0 rfl (lv_at hl 0 rfl) ?_
  refine lv_iload_n hx hb dX11_isClash_1 rfl (lv_at hl 1 rfl) ?_
  obtain ⟨hPc, hDc, hFc, hI1⟩ := zi_sub (wc := [_, _, _]) hP hD hS hA [0, 1, 2] rfl rfl
  refine zcall (st1 := [.int (pI (f < ft ∧ (st f).toInt = 1 ∧ (tn f).toInt = 0))]) (va_runV (As := [.int (nI f)]) (rest := []) ⟨hx, hb, hml, hown, hts⟩ (k_M_is_n l dC dI cI cZ cF s.heap.size k0 a I0 J0 f ft st tn (by first | with_reducible assumption | assumption) (by first | with_reducible assumption | omega) (by first | with_reducible assumption | omega)) (csV_179 hts rfl rfl ⟨Nat.le_of_ble_eq_true rfl, Nat.le_of_ble_eq_true rfl⟩) (zPV2 (q0 := 0) (ci := 9) hPc hDc hK hXN rfl rfl) rfl rfl hl.1 rfl (lv_room (Nat.le_of_ble_eq_true rfl)) dX11_isClash_2 ⟨Nat.le_of_ble_eq_true rfl, Nat.le_of_ble_eq_true rfl⟩) hS hFc hFc rfl (fun t H locs ht hB hk1 hS => ?_)
  obtain ⟨hP1, hD1⟩ := hB
  rw [ht] at hP1
  replace hP := z0 hP hD hk1 hP1 hI1
  clear hk1 hPc hDc hFc hP1 hD1 ht hI1
  refine lv_if_eq (tgt := 25) hx hb dX11_isClash_5 rfl (fun c_1 => ?_) (fun c_1 => ?_)
  · have c_1 : ¬ (f < ft ∧ (st f).toInt = 1 ∧ (tn f).toInt = 0) := zp_0 c_1
    refine lv_iconst (v := 0) hx hb dX11_isClash_25 rfl ?_
    obtain ⟨hP9, hD9⟩ := zu_sub (wc := [_, _, _, _, _, _, _, _, _]) hP hD [true, true, true, true, true, true, true, true, true] rfl rfl
    rw [hQ9]
    exact W.zret (ty := .boolean) (v := 0) hx hb hr (rfl) (fun t ht hW => ⟨⟨congrArg (fun z => Outcome.returned (some (Value.int z))) (show (0 : Int32) = pI (clP ft st tn kd mn cx cy wd gp9 f g) from (zp_f (by first | exact fun h => absurd h.1 (by first | with_reducible assumption | assumption) | exact fun h => absurd h.2.1 (by first | with_reducible assumption | assumption) | exact fun h => absurd (by first | with_reducible assumption | assumption) h.2.2.1)).symm), (J0 48), (J0 49), S0, by rw [ht]; exact hP9, hD9⟩, hS.F ht⟩) hS.2.2 dX11_isClash_26
  · have c_1 : f < ft ∧ (st f).toInt = 1 ∧ (tn f).toInt = 0 := zp_1 c_1
    have hw_ff := hwf f (by first | with_reducible assumption | assumption)
    have hm_ff := hw_ff.1
    have hn_ff := hw_ff.2.1
    have hp_ff := hw_ff.2.2
    have he_ff := hef f (by first | with_reducible assumption | assumption)
    refine lv_aload_n hx hb dX11_isClash_8 rfl (lv_at hl 0 rfl) ?_
    refine lv_iload_n hx hb dX11_isClash_9 rfl (lv_at hl 2 rfl) ?_
    obtain ⟨hPc, hDc, hFc, hI1⟩ := zi_sub (wc := [_, _, _]) hP hD hS hA [0, 1, 2] rfl rfl
    refine zcall (st1 := [.int (pI (g < ft ∧ (st g).toInt = 1 ∧ (tn g).toInt = 0))]) (va_runV (As := [.int (nI g)]) (rest := []) ⟨hx, hb, hml, hown, hts⟩ (k_M_is_n l dC dI cI cZ cF H.size k0 a I0 J0 g ft st tn (by first | with_reducible assumption | assumption) (by first | with_reducible assumption | omega) (by first | with_reducible assumption | omega)) (csV_179 hts rfl rfl ⟨Nat.le_of_ble_eq_true rfl, Nat.le_of_ble_eq_true rfl⟩) (zPV2 (q0 := 0) (ci := 9) hPc hDc hK hXN rfl rfl) rfl rfl hl.1 rfl (lv_room (Nat.le_of_ble_eq_true rfl)) dX11_isClash_10 ⟨Nat.le_of_ble_eq_true rfl, Nat.le_of_ble_eq_true rfl⟩) hS hFc hFc rfl (fun t H locs ht hB hk1 hS => ?_)
    obtain ⟨hP1, hD1⟩ := hB
    rw [ht] at hP1
    replace hP := z0 hP hD hk1 hP1 hI1
    clear hk1 hPc hDc hFc hP1 hD1 ht hI1
    refine lv_if_eq (tgt := 25) hx hb dX11_isClash_13 rfl (fun c_2 => ?_) (fun c_2 => ?_)
    · have c_2 : ¬ (g < ft ∧ (st g).toInt = 1 ∧ (tn g).toInt = 0) := zp_0 c_2
      refine lv_iconst (v := 0) hx hb dX11_isClash_25 rfl ?_
      obtain ⟨hP9, hD9⟩ := zu_sub (wc := [_, _, _, _, _, _, _, _, _]) hP hD [true, true, true, true, true, true, true, true, true] rfl rfl
      rw [hQ9]
      exact W.zret (ty := .boolean) (v := 0) hx hb hr (rfl) (fun t ht hW => ⟨⟨congrArg (fun z => Outcome.returned (some (Value.int z))) (show (0 : Int32) = pI (clP ft st tn kd mn cx cy wd gp9 f g) from (zp_f (by first | exact fun h => absurd h.1 (by first | with_reducible assumption | assumption) | exact fun h => absurd h.2.1 (by first | with_reducible assumption | assumption) | exact fun h => absurd (by first | with_reducible assumption | assumption) h.2.2.1)).symm), (J0 48), (J0 49), S0, by rw [ht]; exact hP9, hD9⟩, hS.F ht⟩) hS.2.2 dX11_isClash_26
    · have c_2 : g < ft ∧ (st g).toInt = 1 ∧ (tn g).toInt = 0 := zp_1 c_2
      have hw_gg := hwf g (by first | with_reducible assumption | assumption)
      have hm_gg := hw_gg.1
      have hn_gg := hw_gg.2.1
      have hp_gg := hw_gg.2.2
      have he_gg := hef g (by first | with_reducible assumption | assumption)
      refine lv_aload_n hx hb dX11_isClash_16 rfl (lv_at hl 0 rfl) ?_
      refine lv_iload_n hx hb dX11_isClash_17 rfl (lv_at hl 1 rfl) ?_
      refine lv_iload_n hx hb dX11_isClash_18 rfl (lv_at hl 2 rfl) ?_
      obtain ⟨hPc, hDc, hFc⟩ := zo_sub (wc := [_, _, _, _, _, _]) hP hD hS hA [0, 3, 4, 5, 6, 7] (by decide +kernel) rfl
      refine zcall (st1 := [.int (pI (∃ i, i < eO (kd f).toInt (nN (mn f)) ∧ ∃ j, j < eO (kd g).toInt (nN (mn g)) ∧ eMt (nN (mn f)) (cF40 cx f) (cF40 cy f) i (nN (mn g)) (cF40 cx g) (cF40 cy g) j))]) (va_runV (As := [.int (nI f), .int (nI g)]) (rest := []) ⟨hx, hb, hml, hown, hts⟩ (k_M_isMet l dC dI cI cZ cF H.size k0 a I0 J0 f (nN (mn f)) g (nN (mn g)) kd mn cx cy S0 (by first | with_reducible assumption | omega) (by first | with_reducible assumption | assumption) (by first | with_reducible assumption | omega) (by first | with_reducible assumption | assumption) (by first | with_reducible assumption | omega) (by first | with_reducible assumption | assumption) (by first | with_reducible assumption | omega) (by first | with_reducible assumption | assumption)) (csV_180 hts rfl rfl ⟨Nat.le_of_ble_eq_true rfl, Nat.le_of_ble_eq_true rfl⟩) (zPV2 (q0 := 0) (ci := 9) hPc hDc hK hXN rfl rfl) rfl rfl hl.1 rfl (lv_room (Nat.le_of_ble_eq_true rfl)) dX11_isClash_19 ⟨Nat.le_of_ble_eq_true rfl, Nat.le_of_ble_eq_true rfl⟩) hS hFc hFc rfl (fun t H locs ht hB hk1 hS => ?_)
      obtain ⟨q_3, hP1, hD1⟩ := hB
      rw [ht] at hP1
      obtain ⟨hP, hD⟩ := zn (W2 := [_, _, _, _, _, _, _, (oa (a 32) cI 8 q_3), _]) hP hD hk1 hFc hP1 hD1 [0, 3, 4, 5, 6, 7] zl_173 zl_173 [0, 3, 4, 5, 6, 7] (by decide +kernel) rfl rfl rfl rfl rfl
      clear hk1 hPc hDc hFc hP1 hD1 ht
      refine zz_i (v := pI (mtF (kd f).toInt (nN (mn f)) (cF40 cx f) (cF40 cy f) (kd g).toInt (nN (mn g)) (cF40 cx g) (cF40 cy g))) (rfl) ?_
      refine lv_if_eq (tgt := 27) hx hb dX11_isClash_22 rfl (fun c_4 => ?_) (fun c_4 => ?_)
      · have c_4 : ¬ (mtF (kd f).toInt (nN (mn f)) (cF40 cx f) (cF40 cy f) (kd g).toInt (nN (mn g)) (cF40 cx g) (cF40 cy g)) := zp_0 c_4
        refine lv_aload_n hx hb dX11_isClash_27 rfl (lv_at hl 0 rfl) ?_
        refine lv_iload_n hx hb dX11_isClash_28 rfl (lv_at hl 1 rfl) ?_
        refine lv_iload_n hx hb dX11_isClash_29 rfl (lv_at hl 2 rfl) ?_
        obtain ⟨hPc, hDc, hFc⟩ := zo_sub (wc := [_, _, _, _, _, _]) hP hD hS hA [0, 3, 4, 5, 6, 7] (by decide +kernel) rfl
        refine zcall (st1 := []) (va_runV (As := [.int (nI f), .int (nI g)]) (rest := []) ⟨hx, hb, hml, hown, hts⟩ (k_M_distance_n l dC dI cI cZ cF H.size k0 a I0 J0 f (nN (mn f)) g (nN (mn g)) kd mn cx cy q_3 (by first | with_reducible assumption | omega) (by first | with_reducible assumption | assumption) (by first | with_reducible assumption | omega) (by first | with_reducible assumption | assumption) (by first | with_reducible assumption | omega) (by first | with_reducible assumption | assumption) (by first | with_reducible assumption | omega) (by first | with_reducible assumption | assumption) (by first | with_reducible assumption | assumption) (he_ff) (he_gg)) (csV_226 hts rfl rfl ⟨Nat.le_of_ble_eq_true rfl, Nat.le_of_ble_eq_true rfl⟩) (zPV2 (q0 := 0) (ci := 9) hPc hDc hK hXN rfl rfl) rfl rfl hl.1 rfl (lv_room (Nat.le_of_ble_eq_true rfl)) dX11_isClash_30 ⟨Nat.le_of_ble_eq_true rfl, Nat.le_of_ble_eq_true rfl⟩) hS hFc hFc rfl (fun t H locs ht hB hk1 hS => ?_)
        obtain ⟨un, dd, S1, hmin, hub, hP1, hD1⟩ := hB
        rw [ht] at hP1
        obtain ⟨hP, hD⟩ := zn (W2 := [(om k0 a I0 (vp_updL (vp_updL J0 48 (jI ((un / Nat.gcd un dd : Nat) : Int))) 49 (jI ((dd / Nat.gcd un dd : Nat) : Int)))), _, _, _, _, _, _, (oa (a 32) cI 8 S1), _]) hP hD hk1 hFc hP1 hD1 [0, 3, 4, 5, 6, 7] zl_173 zl_173 [0, 3, 4, 5, 6, 7] (by decide +kernel) rfl rfl rfl rfl rfl
        clear hk1 hPc hDc hFc hP1 hD1 ht
        have hge := Nat.gcd_pos_of_pos_right un (show 0 < dd by omega)
        have hq1 : un / Nat.gcd un dd ≤ un := Nat.div_le_self _ _
        have hq2 : dd / Nat.gcd un dd ≤ dd := Nat.div_le_self _ _
        have hcm := rd_gt (c := ((wd f).toInt + (wd g).toInt + 2 * gp9.toInt) * ((wd f).toInt + (wd g).toInt + 2 * gp9.toInt)) (u := un) (d := dd) hub.2.1
        obtain ⟨uq, huq⟩ : ∃ uq, uq = un / Nat.gcd un dd := ⟨_, rfl⟩
        obtain ⟨dq, hdq⟩ : ∃ dq, dq = dd / Nat.gcd un dd := ⟨_, rfl⟩
        rw [← huq, ← hdq] at hP hD hcm
        rw [← huq] at hq1
        rw [← hdq] at hq2
        have hwf9 := hwd f (by omega)
        have hwg9 := hwd g (by omega)
        have hcb := clB (c := ((wd f).toInt + (wd g).toInt + 2 * gp9.toInt)) (D := dq) (by omega) (by omega)
        refine lv_aload_n hx hb dX11_isClash_33 rfl (lv_at hl 0 rfl) ?_
        refine va_get (D := (dC, dI)) (ci := 9) (v := .ref (a 3)) (C := RX11) (T := TX11) (N := 55) hx hb hts inX11 hown hK hP 0 rfl rfl 3 (Nat.le_of_ble_eq_true rfl) (hts _ mw_1162) (fun _ h9 => h9) rfl dX11_isClash_34 ?_
        refine lv_iload_n hx hb dX11_isClash_37 rfl (lv_at hl 1 rfl) ?_
        have b9_5 : f < 201 := by omega
        refine z_iald hx hb hK hP 8 0 rfl rfl (e := f) rfl b9_5 (Nat.le_of_ble_eq_true rfl) dX11_isClash_38 ?_
        refine lv_aload_n hx hb dX11_isClash_39 rfl (lv_at hl 0 rfl) ?_
        refine va_get (D := (dC, dI)) (ci := 9) (v := .ref (a 3)) (C := RX11) (T := TX11) (N := 55) hx hb hts inX11 hown hK hP 0 rfl rfl 3 (Nat.le_of_ble_eq_true rfl) (hts _ mw_1162) (fun _ h9 => h9) rfl dX11_isClash_40 ?_
        refine lv_iload_n hx hb dX11_isClash_43 rfl (lv_at hl 2 rfl) ?_
        have b9_6 : g < 201 := by omega
        refine z_iald hx hb hK hP 8 0 rfl rfl (e := g) rfl b9_6 (Nat.le_of_ble_eq_true rfl) dX11_isClash_44 ?_
        refine lv_iadd hx hb dX11_isClash_45 ?_
        refine lv_i2l (v := ((wd f) + (wd g)).toInt64) hx hb dX11_isClash_46 (rfl) ?_
        refine lv_ldc2 hx hb hown (hts _ mw_1575) dX11_isClash_47 ?_
        refine lv_iload_n hx hb dX11_isClash_50 rfl (lv_at hl 3 rfl) ?_
        refine lv_i2l (v := gp9.toInt64) hx hb dX11_isClash_51 (rfl) ?_
        refine lv_lmul hx hb dX11_isClash_52 ?_
        refine lv_ladd hx hb dX11_isClash_53 ?_
        refine zz_l (v := jI ((wd f).toInt + (wd g).toInt + 2 * gp9.toInt)) (clL hwf9 hwg9 hgp) ?_
        refine lv_lstore (lv' := [(4, .long (jI ((wd f).toInt + (wd g).toInt + 2 * gp9.toInt))), (0, .ref k0), (1, .int (nI f)), (2, .int (nI g)), (3, .int gp9)]) hx hb dX11_isClash_54 hl (Nat.le_of_ble_eq_true rfl) rfl (fun ls hl => ?_)
        refine lv_ldc2 hx hb hown (hts _ mw_1685) dX11_isClash_56 ?_
        refine lv_aload_n hx hb dX11_isClash_59 rfl (lv_at hl 1 rfl) ?_
        refine va_get (D := (dC, dI)) (ci := 9) (v := .long (jI ((uq : Nat) : Int))) (C := RX11) (T := TX11) (N := 55) hx hb hts inX11 hown hK hP 0 rfl rfl 48 (Nat.le_of_ble_eq_true rfl) (hts _ mw_1207) (fun _ h9 => h9) rfl dX11_isClash_60 ?_
        refine lv_lmul hx hb dX11_isClash_63 ?_
        refine zz_l (v := jI (4 * ((uq : Nat) : Int))) (by rw [show (4 : Int64) = jI 4 from rfl]; exact jI_mul (by omega) (by omega) (by omega)) ?_
        refine lv_lload hx hb dX11_isClash_64 (lv_at hl 0 rfl) ?_
        refine lv_lload hx hb dX11_isClash_66 (lv_at hl 0 rfl) ?_
        refine lv_lmul hx hb dX11_isClash_68 ?_
        refine zz_l (v := jI (((wd f).toInt + (wd g).toInt + 2 * gp9.toInt) * ((wd f).toInt + (wd g).toInt + 2 * gp9.toInt))) (jI_mul (by omega) (by omega) (by omega)) ?_
        refine lv_aload_n hx hb dX11_isClash_69 rfl (lv_at hl 1 rfl) ?_
        refine va_get (D := (dC, dI)) (ci := 9) (v := .long (jI ((dq : Nat) : Int))) (C := RX11) (T := TX11) (N := 55) hx hb hts inX11 hown hK hP 0 rfl rfl 49 (Nat.le_of_ble_eq_true rfl) (hts _ mw_1208) (fun _ h9 => h9) rfl dX11_isClash_70 ?_
        refine lv_lmul hx hb dX11_isClash_73 ?_
        refine zz_l (v := jI (((wd f).toInt + (wd g).toInt + 2 * gp9.toInt) * ((wd f).toInt + (wd g).toInt + 2 * gp9.toInt) * ((dq : Nat) : Int))) (jI_mul (by omega) (by omega) (by omega)) ?_
        refine W.lcmp hx hb dX11_isClash_74 ?_
        refine lv_if_ge (tgt := 82) hx hb dX11_isClash_75 rfl (fun c_7 => ?_) (fun c_7 => ?_)
        · have c_7 : (((wd f).toInt + (wd g).toInt + 2 * gp9.toInt) * ((wd f).toInt + (wd g).toInt + 2 * gp9.toInt) * ((dq : Nat) : Int)) ≤ (4 * ((uq : Nat) : Int)) := zl_ge (jI_toInt (by omega)) (jI_toInt (by omega)) c_7
          refine lv_iconst (v := 0) hx hb dX11_isClash_82 rfl ?_
          obtain ⟨hP9, hD9⟩ := zu_sub (wc := [_, _, _, _, _, _, _, _, _]) hP hD [true, true, true, true, true, true, true, true, true] rfl rfl
          rw [hQ9]
          exact W.zret (ty := .boolean) (v := 0) hx hb hr (rfl) (fun t ht hW => ⟨⟨congrArg (fun z => Outcome.returned (some (Value.int z))) (show (0 : Int32) = pI (clP ft st tn kd mn cx cy wd gp9 f g) from (zp_f (by first | exact ⟨by assumption, by assumption, by assumption, fun u9 d9 h9 hI9 => im_gt hmin hI9 (by omega) (by omega) (hcm.mp (by first | with_reducible assumption | assumption))⟩ | exact fun h => absurd (hcm.mpr (h.2.2.2 un dd hub.2.1 hmin)) (by omega))).symm), (jI ((uq : Nat) : Int)), (jI ((dq : Nat) : Int)), S1, by rw [ht]; exact hP9, hD9⟩, hS.F ht⟩) hS.2.2 dX11_isClash_83
        · have c_7 : (4 * ((uq : Nat) : Int)) < (((wd f).toInt + (wd g).toInt + 2 * gp9.toInt) * ((wd f).toInt + (wd g).toInt + 2 * gp9.toInt) * ((dq : Nat) : Int)) := zl_nge (jI_toInt (by omega)) (jI_toInt (by omega)) c_7
          refine lv_iconst (v := 1) hx hb dX11_isClash_78 rfl ?_
          refine lv_goto (tgt := 83) hx hb dX11_isClash_79 rfl ?_
          obtain ⟨hP9, hD9⟩ := zu_sub (wc := [_, _, _, _, _, _, _, _, _]) hP hD [true, true, true, true, true, true, true, true, true] rfl rfl
          rw [hQ9]
          exact W.zret (ty := .boolean) (v := 1) hx hb hr (rfl) (fun t ht hW => ⟨⟨congrArg (fun z => Outcome.returned (some (Value.int z))) (show (1 : Int32) = pI (clP ft st tn kd mn cx cy wd gp9 f g) from (zp_t (by first | exact ⟨by assumption, by assumption, by assumption, fun u9 d9 h9 hI9 => im_gt hmin hI9 (by omega) (by omega) (hcm.mp (by first | with_reducible assumption | assumption))⟩ | exact fun h => absurd (hcm.mpr (h.2.2.2 un dd hub.2.1 hmin)) (by omega))).symm), (jI ((uq : Nat) : Int)), (jI ((dq : Nat) : Int)), S1, by rw [ht]; exact hP9, hD9⟩, hS.F ht⟩) hS.2.2 dX11_isClash_83
      · have c_4 : mtF (kd f).toInt (nN (mn f)) (cF40 cx f) (cF40 cy f) (kd g).toInt (nN (mn g)) (cF40 cx g) (cF40 cy g) := zp_1 c_4
        refine lv_iconst (v := 0) hx hb dX11_isClash_25 rfl ?_
        obtain ⟨hP9, hD9⟩ := zu_sub (wc := [_, _, _, _, _, _, _, _, _]) hP hD [true, true, true, true, true, true, true, true, true] rfl rfl
        rw [hQ9]
        exact W.zret (ty := .boolean) (v := 0) hx hb hr (rfl) (fun t ht hW => ⟨⟨congrArg (fun z => Outcome.returned (some (Value.int z))) (show (0 : Int32) = pI (clP ft st tn kd mn cx cy wd gp9 f g) from (zp_f (by first | exact fun h => absurd h.1 (by first | with_reducible assumption | assumption) | exact fun h => absurd h.2.1 (by first | with_reducible assumption | assumption) | exact fun h => absurd (by first | with_reducible assumption | assumption) h.2.2.1)).symm), (J0 48), (J0 49), q_3, by rw [ht]; exact hP9, hD9⟩, hS.F ht⟩) hS.2.2 dX11_isClash_26
set_option maxHeartbeats 4000000 in
set_option maxRecDepth 100000 in
theorem k_M_clashes_r (l : Launch) (dC : Nat → ClassId) (dI : Nat → Nat → Nat) (cI cZ cF : ClassId) (sz : Nat) (k0 : Nat) (a : Nat → Nat) (I0 : Nat → Int32) (J0 : Nat → Int64) (gp9 : Int32) (hgp : ¬ (0 ≤ gp9.toInt ∧ gp9.toInt ≤ 200)) : zM l yX11_clashes cX11_clashes 5 (some .int) ({ frames := 0, cells := 0, slots := 0, locals := 0 } : Room) [.ref k0, .int gp9] (dC, dI) (zTy cI cZ cF) [(om k0 a I0 J0)] sz (some (.int (-1))) (fun A t => zPD (dC, dI) classes A [(om k0 a I0 J0)] t.heap) 0 0 := by
  refine zIn (own := "ScaleShopModel") (loc := [(0, .ref k0), (1, .int gp9)]) rfl rfl rfl rfl (fun p e s m below meth c hx hb hr hts hown hlocks hml hnm9 A hA hS hP hD hK hXN Q9 hQ9 ls hl => ?_)
  refine lv_iload_n hx hb dX11_clashes_0 rfl (lv_at hl 1 rfl) ?_
  refine lv_if_lt (tgt := 11) hx hb dX11_clashes_1 rfl (fun c_1 => ?_) (fun c_1 => ?_)
  · have c_1 : gp9.toInt < 0 := zc_lt rfl rfl c_1
    refine lv_iconst (v := (-1)) hx hb dX11_clashes_11 rfl ?_
    obtain ⟨hP9, hD9⟩ := zu_sub (wc := [_]) hP hD [true] rfl rfl
    rw [hQ9]
    exact W.iret (v := (-1)) hx hb hr (fun t ht hW => ⟨⟨rfl, by rw [ht]; exact hP9, hD9⟩, hS.F ht⟩) hS.2.2 dX11_clashes_12
  · have c_1 : 0 ≤ gp9.toInt := zc_nlt rfl rfl c_1
    refine lv_iload_n hx hb dX11_clashes_4 rfl (lv_at hl 1 rfl) ?_
    refine lv_sipush (v := 200) hx hb dX11_clashes_5 rfl ?_
    refine lv_icmp_le (tgt := 13) hx hb dX11_clashes_8 rfl (fun c_2 => ?_) (fun c_2 => ?_)
    · have c_2 : gp9.toInt ≤ 200 := zc_le rfl rfl c_2
      exfalso; omega
    · have c_2 : 200 < gp9.toInt := zc_nle rfl rfl c_2
      refine lv_iconst (v := (-1)) hx hb dX11_clashes_11 rfl ?_
      obtain ⟨hP9, hD9⟩ := zu_sub (wc := [_]) hP hD [true] rfl rfl
      rw [hQ9]
      exact W.iret (v := (-1)) hx hb hr (fun t ht hW => ⟨⟨rfl, by rw [ht]; exact hP9, hD9⟩, hS.F ht⟩) hS.2.2 dX11_clashes_12
set_option maxHeartbeats 4000000 in
set_option maxRecDepth 100000 in
theorem k_M_clashes_y (l : Launch) (dC : Nat → ClassId) (dI : Nat → Nat → Nat) (cI cZ cF : ClassId) (sz : Nat) (k0 : Nat) (a : Nat → Nat) (I0 : Nat → Int32) (J0 : Nat → Int64) (ft : Nat) (gp9 : Int32) (st : Nat → Int32) (tn : Nat → Int32) (kd : Nat → Int32) (mn : Nat → Int32) (cx : Nat → Int32) (cy : Nat → Int32) (S0 : Nat → Int32) (wd : Nat → Int32) (hft : I0 0 = nI ft) (h200 : ft ≤ 200) (hwf : ∀ q, lvF ft st tn q → wfM mn cx cy q) (hef : ∀ q, lvF ft st tn q → 1 ≤ eO (kd q).toInt (nN (mn q))) (hwd : ∀ q, q < ft → 0 ≤ (wd q).toInt ∧ (wd q).toInt ≤ 100) (hgp : 0 ≤ gp9.toInt ∧ gp9.toInt ≤ 200) : zM l yX11_clashes cX11_clashes 5 (some .int) ({ frames := 6, cells := 0, slots := 0, locals := 154 } : Room) [.ref k0, .int gp9] (dC, dI) (zTy cI cZ cF) [(om k0 a I0 J0), (oa (a 5) cI 201 st), (oa (a 6) cZ 201 tn), (oa (a 1) cI 201 kd), (oa (a 11) cI 201 mn), (oa (a 12) cI 8040 cx), (oa (a 13) cI 8040 cy), (oa (a 32) cI 8 S0), (oa (a 3) cI 201 wd)] sz (some (.int (nI (clT (clP ft st tn kd mn cx cy wd gp9) ft ft)))) (fun A t => ∃ (u9 : Int64), ∃ (d9 : Int64), ∃ (S1 : Nat → Int32), zPD (dC, dI) classes A [(om k0 a I0 (vp_updL (vp_updL J0 48 u9) 49 d9)), (oa (a 5) cI 201 st), (oa (a 6) cZ 201 tn), (oa (a 1) cI 201 kd), (oa (a 11) cI 201 mn), (oa (a 12) cI 8040 cx), (oa (a 13) cI 8040 cy), (oa (a 32) cI 8 S1), (oa (a 3) cI 201 wd)] t.heap) 0 0 := by
  refine zIn (own := "ScaleShopModel") (loc := [(0, .ref k0), (1, .int gp9)]) rfl rfl rfl rfl (fun p e s m below meth c hx hb hr hts hown hlocks hml hnm9 A hA hS hP hD hK hXN Q9 hQ9 ls hl => ?_)
  refine lv_iload_n hx hb dX11_clashes_0 rfl (lv_at hl 1 rfl) ?_
  refine lv_if_lt (tgt := 11) hx hb dX11_clashes_1 rfl (fun c_1 => ?_) (fun c_1 => ?_)
  · have c_1 : gp9.toInt < 0 := zc_lt rfl rfl c_1
    exfalso; omega
  · have c_1 : 0 ≤ gp9.toInt := zc_nlt rfl rfl c_1
    refine lv_iload_n hx hb dX11_clashes_4 rfl (lv_at hl 1 rfl) ?_
    refine lv_sipush (v := 200) hx hb dX11_clashes_5 rfl ?_
    refine lv_icmp_le (tgt := 13) hx hb dX11_clashes_8 rfl (fun c_2 => ?_) (fun c_2 => ?_)
    · have c_2 : gp9.toInt ≤ 200 := zc_le rfl rfl c_2
      refine lv_iconst (v := 0) hx hb dX11_clashes_13 rfl ?_
      refine lv_istore_n (lv' := [(2, .int 0), (0, .ref k0), (1, .int gp9)]) hx hb dX11_clashes_14 rfl hl (Nat.le_of_ble_eq_true rfl) rfl (fun ls hl => ?_)
      refine lv_iconst (v := 0) hx hb dX11_clashes_15 rfl ?_
      refine lv_istore_n (lv' := [(3, .int 0), (2, .int 0), (0, .ref k0), (1, .int gp9)]) hx hb dX11_clashes_16 rfl hl (Nat.le_of_ble_eq_true rfl) rfl (fun ls hl => ?_)
      have hl_17 : ∀ (n9 : Nat) (a9 : Nat) (u9 : Int64) (d9 : Int64) (S1 : Nat → Int32) (H : Heap) (locs : List Loc) (ls : Array Slot), ft - a9 < n9 → (a9 ≤ ft) → va_P (dC, dI) classes [(om k0 a I0 (vp_updL (vp_updL J0 48 u9) 49 d9)), (oa (a 5) cI 201 st), (oa (a 6) cZ 201 tn), (oa (a 1) cI 201 kd), (oa (a 11) cI 201 mn), (oa (a 12) cI 8040 cx), (oa (a 13) cI 8040 cy), (oa (a 32) cI 8 S1), (oa (a 3) cI 201 wd)] H → va_D A [(om k0 a I0 (vp_updL (vp_updL J0 48 u9) 49 d9)), (oa (a 5) cI 201 st), (oa (a 6) cZ 201 tn), (oa (a 1) cI 201 kd), (oa (a 11) cI 201 mn), (oa (a 12) cI 8040 cx), (oa (a 13) cI 8040 cy), (oa (a 32) cI 8 S1), (oa (a 3) cI 201 wd)] → va_S A s.heap H locs → lv_has ls 5 [(3, .int (nI a9)), (2, .int (nI (clT (clP ft st tn kd mn cx cy wd gp9) ft a9))), (0, .ref k0), (1, .int gp9)] → W p l e ({ frames := 6, cells := 0, slots := 0, locals := 154 } : Room) s m ([.ref k0, .int gp9] : List Value).toArray below meth c H locs 0 0 Q9 (F0 m 17 ls []) := by
        intro n9
        induction n9 with
        | zero => intro a9 u9 d9 S1 H locs ls hm; exact absurd hm (Nat.not_lt_zero _)
        | succ n9 ih_17 =>
          intro a9 u9 d9 S1 H locs ls hm ha9 hP hD hS hl
          have hct := clT_200 (clP ft st tn kd mn cx cy wd gp9) h200 ha9
          refine lv_iload_n hx hb dX11_clashes_17 rfl (lv_at hl 0 rfl) ?_
          refine lv_aload_n hx hb dX11_clashes_18 rfl (lv_at hl 2 rfl) ?_
          refine va_get (D := (dC, dI)) (ci := 9) (v := .int (I0 0)) (C := RX11) (T := TX11) (N := 55) hx hb hts inX11 hown hK hP 0 rfl rfl 0 (Nat.le_of_ble_eq_true rfl) (hts _ mw_1159) (fun _ h9 => h9) rfl dX11_clashes_19 ?_
          refine zz_i (v := nI ft) (hft) ?_
          have b9_4 : zlt (a9) := show a9 < 2147483648 by omega
          have b9_5 : zlt (ft) := show ft < 2147483648 by omega
          refine lv_icmp_ge (tgt := 70) hx hb dX11_clashes_22 rfl (fun c_3 => ?_) (fun c_3 => ?_)
          · have c_3 : ((ft : Nat) : Int) ≤ ((a9 : Nat) : Int) := zc_le (nI_toInt b9_5) (nI_toInt b9_4) c_3
            refine lv_iload_n hx hb dX11_clashes_70 rfl (lv_at hl 1 rfl) ?_
            obtain ⟨hP9, hD9⟩ := zu_sub (wc := [_, _, _, _, _, _, _, _, _]) hP hD [true, true, true, true, true, true, true, true, true] rfl rfl
            rw [hQ9]
            exact W.iret (v := nI (clT (clP ft st tn kd mn cx cy wd gp9) ft a9)) hx hb hr (fun t ht hW => ⟨⟨congrArg (fun z => Outcome.returned (some (Value.int z))) (show (nI (clT (clP ft st tn kd mn cx cy wd gp9) ft a9) : Int32) = nI (clT (clP ft st tn kd mn cx cy wd gp9) ft ft) from zn_eq (by rw [show a9 = ft by omega])), u9, d9, S1, by rw [ht]; exact hP9, hD9⟩, hS.F ht⟩) hS.2.2 dX11_clashes_71
          · have c_3 : ((a9 : Nat) : Int) < ((ft : Nat) : Int) := zc_nle (nI_toInt b9_5) (nI_toInt b9_4) c_3
            refine lv_iload_n hx hb dX11_clashes_25 rfl (lv_at hl 0 rfl) ?_
            refine lv_iconst (v := 1) hx hb dX11_clashes_26 rfl ?_
            refine lv_iadd hx hb dX11_clashes_27 ?_
            refine zz_i (v := nI (a9 + 1)) (nI_add a9 1) ?_
            refine lv_istore (lv' := [(4, .int (nI (a9 + 1))), (3, .int (nI a9)), (2, .int (nI (clT (clP ft st tn kd mn cx cy wd gp9) ft a9))), (0, .ref k0), (1, .int gp9)]) hx hb dX11_clashes_28 hl (Nat.le_of_ble_eq_true rfl) rfl (fun ls hl => ?_)
            have hl_30 : ∀ (n9 : Nat) (b9 : Nat) (u9 : Int64) (d9 : Int64) (S1 : Nat → Int32) (H : Heap) (locs : List Loc) (ls : Array Slot), ft - b9 < n9 → (a9 < b9 ∧ b9 ≤ ft) → va_P (dC, dI) classes [(om k0 a I0 (vp_updL (vp_updL J0 48 u9) 49 d9)), (oa (a 5) cI 201 st), (oa (a 6) cZ 201 tn), (oa (a 1) cI 201 kd), (oa (a 11) cI 201 mn), (oa (a 12) cI 8040 cx), (oa (a 13) cI 8040 cy), (oa (a 32) cI 8 S1), (oa (a 3) cI 201 wd)] H → va_D A [(om k0 a I0 (vp_updL (vp_updL J0 48 u9) 49 d9)), (oa (a 5) cI 201 st), (oa (a 6) cZ 201 tn), (oa (a 1) cI 201 kd), (oa (a 11) cI 201 mn), (oa (a 12) cI 8040 cx), (oa (a 13) cI 8040 cy), (oa (a 32) cI 8 S1), (oa (a 3) cI 201 wd)] → va_S A s.heap H locs → lv_has ls 5 [(4, .int (nI b9)), (3, .int (nI a9)), (2, .int (nI (clT (clP ft st tn kd mn cx cy wd gp9) ft a9 + cntP (fun b => a9 < b ∧ clP ft st tn kd mn cx cy wd gp9 a9 b) b9))), (0, .ref k0), (1, .int gp9)] → W p l e ({ frames := 6, cells := 0, slots := 0, locals := 154 } : Room) s m ([.ref k0, .int gp9] : List Value).toArray below meth c H locs 0 0 Q9 (F0 m 30 ls []) := by
              intro n9
              induction n9 with
              | zero => intro b9 u9 d9 S1 H locs ls hm; exact absurd hm (Nat.not_lt_zero _)
              | succ n9 ih_30 =>
                intro b9 u9 d9 S1 H locs ls hm hb9 hP hD hS hl
                have hcn := cntP_b (fun b => a9 < b ∧ clP ft st tn kd mn cx cy wd gp9 a9 b) b9
                refine lv_iload hx hb dX11_clashes_30 (lv_at hl 0 rfl) ?_
                refine lv_aload_n hx hb dX11_clashes_32 rfl (lv_at hl 3 rfl) ?_
                refine va_get (D := (dC, dI)) (ci := 9) (v := .int (I0 0)) (C := RX11) (T := TX11) (N := 55) hx hb hts inX11 hown hK hP 0 rfl rfl 0 (Nat.le_of_ble_eq_true rfl) (hts _ mw_1159) (fun _ h9 => h9) rfl dX11_clashes_33 ?_
                refine zz_i (v := nI ft) (hft) ?_
                have b9_7 : zlt (b9) := show b9 < 2147483648 by omega
                refine lv_icmp_ge (tgt := 64) hx hb dX11_clashes_36 rfl (fun c_6 => ?_) (fun c_6 => ?_)
                · have c_6 : ((ft : Nat) : Int) ≤ ((b9 : Nat) : Int) := zc_le (nI_toInt b9_5) (nI_toInt b9_7) c_6
                  refine lv_iinc (v := nI (a9 + 1)) (lv' := [(3, .int (nI (a9 + 1))), (4, .int (nI b9)), (2, .int (nI (clT (clP ft st tn kd mn cx cy wd gp9) ft a9 + cntP (fun b => a9 < b ∧ clP ft st tn kd mn cx cy wd gp9 a9 b) b9))), (0, .ref k0), (1, .int gp9)]) hx hb dX11_clashes_64 hl (k := 1) rfl (nI_add a9 1) (Nat.le_of_ble_eq_true rfl) rfl (fun ls hl => ?_)
                  refine lv_goto (tgt := 17) hx hb dX11_clashes_67 rfl ?_
                  have hl9 := lv_sub hl [0, 2, 3, 4] rfl
                  have e9_2 : nI (clT (clP ft st tn kd mn cx cy wd gp9) ft (a9 + 1)) = (nI (clT (clP ft st tn kd mn cx cy wd gp9) ft a9 + cntP (fun b => a9 < b ∧ clP ft st tn kd mn cx cy wd gp9 a9 b) b9) : Int32) := by exact zn_eq (by rw [show b9 = ft by omega]; rfl)
                  have hl9 : lv_has ls 5 [(3, .int (nI (a9 + 1))), (2, .int (nI (clT (clP ft st tn kd mn cx cy wd gp9) ft (a9 + 1)))), (0, .ref k0), (1, .int gp9)] := by rw [e9_2]; exact hl9
                  exact ih_17 (a9 + 1) u9 d9 S1 H locs ls (by first | with_reducible assumption | omega) (by first | with_reducible assumption | omega) hP hD hS hl9
                · have c_6 : ((b9 : Nat) : Int) < ((ft : Nat) : Int) := zc_nle (nI_toInt b9_5) (nI_toInt b9_7) c_6
                  refine lv_iload_n hx hb dX11_clashes_39 rfl (lv_at hl 2 rfl) ?_
                  refine lv_aload_n hx hb dX11_clashes_40 rfl (lv_at hl 3 rfl) ?_
                  refine lv_iload_n hx hb dX11_clashes_41 rfl (lv_at hl 1 rfl) ?_
                  refine lv_iload hx hb dX11_clashes_42 (lv_at hl 0 rfl) ?_
                  refine lv_iload_n hx hb dX11_clashes_44 rfl (lv_at hl 4 rfl) ?_
                  obtain ⟨hPc, hDc, hFc⟩ := zo_sub (wc := [_, _, _, _, _, _, _, _, _]) hP hD hS hA [0, 1, 2, 3, 4, 5, 6, 7, 8] (by decide +kernel) rfl
                  refine zcall (st1 := [.int (pI (clP ft st tn kd mn cx cy wd gp9 a9 b9)), .int (nI (clT (clP ft st tn kd mn cx cy wd gp9) ft a9 + cntP (fun b => a9 < b ∧ clP ft st tn kd mn cx cy wd gp9 a9 b) b9))]) (va_runV (As := [.int (nI a9), .int (nI b9), .int gp9]) (rest := [.int (nI (clT (clP ft st tn kd mn cx cy wd gp9) ft a9 + cntP (fun b => a9 < b ∧ clP ft st tn kd mn cx cy wd gp9 a9 b) b9))]) ⟨hx, hb, hml, hown, hts⟩ (k_M_isClash l dC dI cI cZ cF H.size k0 a I0 (vp_updL (vp_updL J0 48 u9) 49 d9) a9 b9 ft gp9 st tn kd mn cx cy S1 wd (by first | with_reducible assumption | assumption) (by first | with_reducible assumption | omega) (by first | with_reducible assumption | assumption) (by first | with_reducible assumption | assumption) (by first | with_reducible assumption | assumption) (by first | with_reducible assumption | assumption) (by first | with_reducible assumption | omega) (by first | with_reducible assumption | omega)) (csV_230 hts rfl rfl ⟨Nat.le_of_ble_eq_true rfl, Nat.le_of_ble_eq_true rfl⟩) (zPV2 (q0 := 0) (ci := 9) hPc hDc hK hXN rfl rfl) rfl rfl hl.1 rfl (lv_room (Nat.le_of_ble_eq_true rfl)) dX11_clashes_45 ⟨Nat.le_of_ble_eq_true rfl, Nat.le_of_ble_eq_true rfl⟩) hS hFc hFc rfl (fun t H locs ht hB hk1 hS => ?_)
                  obtain ⟨q_8, q_9, q_10, hP1, hD1⟩ := hB
                  rw [ht] at hP1
                  obtain ⟨hP, hD⟩ := zn (W2 := [(om k0 a I0 (vp_updL (vp_updL J0 48 q_8) 49 q_9)), _, _, _, _, _, _, (oa (a 32) cI 8 q_10), _]) hP hD hk1 hFc hP1 hD1 zl_269 [] zl_270 zl_269 (by decide +kernel) rfl rfl rfl rfl rfl
                  clear hk1 hPc hDc hFc hP1 hD1 ht
                  refine lv_if_eq (tgt := 55) hx hb dX11_clashes_48 rfl (fun c_11 => ?_) (fun c_11 => ?_)
                  · have c_11 : ¬ (clP ft st tn kd mn cx cy wd gp9 a9 b9) := zp_0 c_11
                    refine lv_iconst (v := 0) hx hb dX11_clashes_55 rfl ?_
                    refine lv_iadd hx hb dX11_clashes_56 ?_
                    refine zz_i (v := nI ((clT (clP ft st tn kd mn cx cy wd gp9) ft a9 + cntP (fun b => a9 < b ∧ clP ft st tn kd mn cx cy wd gp9 a9 b) b9) + 0)) (nI_add (clT (clP ft st tn kd mn cx cy wd gp9) ft a9 + cntP (fun b => a9 < b ∧ clP ft st tn kd mn cx cy wd gp9 a9 b) b9) 0) ?_
                    refine lv_istore_n (lv' := [(2, .int (nI ((clT (clP ft st tn kd mn cx cy wd gp9) ft a9 + cntP (fun b => a9 < b ∧ clP ft st tn kd mn cx cy wd gp9 a9 b) b9) + 0))), (4, .int (nI b9)), (3, .int (nI a9)), (0, .ref k0), (1, .int gp9)]) hx hb dX11_clashes_57 rfl hl (Nat.le_of_ble_eq_true rfl) rfl (fun ls hl => ?_)
                    refine lv_iinc (v := nI (b9 + 1)) (lv' := [(4, .int (nI (b9 + 1))), (2, .int (nI ((clT (clP ft st tn kd mn cx cy wd gp9) ft a9 + cntP (fun b => a9 < b ∧ clP ft st tn kd mn cx cy wd gp9 a9 b) b9) + 0))), (3, .int (nI a9)), (0, .ref k0), (1, .int gp9)]) hx hb dX11_clashes_58 hl (k := 1) rfl (nI_add b9 1) (Nat.le_of_ble_eq_true rfl) rfl (fun ls hl => ?_)
                    refine lv_goto (tgt := 30) hx hb dX11_clashes_61 rfl ?_
                    have hl9 := lv_sub hl [0, 2, 1, 3, 4] rfl
                    have e9_2 : nI (clT (clP ft st tn kd mn cx cy wd gp9) ft a9 + cntP (fun b => a9 < b ∧ clP ft st tn kd mn cx cy wd gp9 a9 b) (b9 + 1)) = (nI ((clT (clP ft st tn kd mn cx cy wd gp9) ft a9 + cntP (fun b => a9 < b ∧ clP ft st tn kd mn cx cy wd gp9 a9 b) b9) + 0) : Int32) := by first | exact zn_eq (by rw [cntP_y (P := fun b => a9 < b ∧ clP ft st tn kd mn cx cy wd gp9 a9 b) ⟨by omega, by assumption⟩]; first | done | omega) | exact zn_eq (by rw [cntP_n (P := fun b => a9 < b ∧ clP ft st tn kd mn cx cy wd gp9 a9 b) (fun h => absurd h.2 (by first | with_reducible assumption | assumption))]; first | done | omega)
                    have hl9 : lv_has ls 5 [(4, .int (nI (b9 + 1))), (3, .int (nI a9)), (2, .int (nI (clT (clP ft st tn kd mn cx cy wd gp9) ft a9 + cntP (fun b => a9 < b ∧ clP ft st tn kd mn cx cy wd gp9 a9 b) (b9 + 1)))), (0, .ref k0), (1, .int gp9)] := by rw [e9_2]; exact hl9
                    exact ih_30 (b9 + 1) q_8 q_9 q_10 H locs ls (by first | with_reducible assumption | omega) (by first | with_reducible assumption | omega) hP hD hS hl9
                  · have c_11 : clP ft st tn kd mn cx cy wd gp9 a9 b9 := zp_1 c_11
                    refine lv_iconst (v := 1) hx hb dX11_clashes_51 rfl ?_
                    refine lv_goto (tgt := 56) hx hb dX11_clashes_52 rfl ?_
                    refine lv_iadd hx hb dX11_clashes_56 ?_
                    refine zz_i (v := nI ((clT (clP ft st tn kd mn cx cy wd gp9) ft a9 + cntP (fun b => a9 < b ∧ clP ft st tn kd mn cx cy wd gp9 a9 b) b9) + 1)) (nI_add (clT (clP ft st tn kd mn cx cy wd gp9) ft a9 + cntP (fun b => a9 < b ∧ clP ft st tn kd mn cx cy wd gp9 a9 b) b9) 1) ?_
                    refine lv_istore_n (lv' := [(2, .int (nI ((clT (clP ft st tn kd mn cx cy wd gp9) ft a9 + cntP (fun b => a9 < b ∧ clP ft st tn kd mn cx cy wd gp9 a9 b) b9) + 1))), (4, .int (nI b9)), (3, .int (nI a9)), (0, .ref k0), (1, .int gp9)]) hx hb dX11_clashes_57 rfl hl (Nat.le_of_ble_eq_true rfl) rfl (fun ls hl => ?_)
                    refine lv_iinc (v := nI (b9 + 1)) (lv' := [(4, .int (nI (b9 + 1))), (2, .int (nI ((clT (clP ft st tn kd mn cx cy wd gp9) ft a9 + cntP (fun b => a9 < b ∧ clP ft st tn kd mn cx cy wd gp9 a9 b) b9) + 1))), (3, .int (nI a9)), (0, .ref k0), (1, .int gp9)]) hx hb dX11_clashes_58 hl (k := 1) rfl (nI_add b9 1) (Nat.le_of_ble_eq_true rfl) rfl (fun ls hl => ?_)
                    refine lv_goto (tgt := 30) hx hb dX11_clashes_61 rfl ?_
                    have hl9 := lv_sub hl [0, 2, 1, 3, 4] rfl
                    have e9_2 : nI (clT (clP ft st tn kd mn cx cy wd gp9) ft a9 + cntP (fun b => a9 < b ∧ clP ft st tn kd mn cx cy wd gp9 a9 b) (b9 + 1)) = (nI ((clT (clP ft st tn kd mn cx cy wd gp9) ft a9 + cntP (fun b => a9 < b ∧ clP ft st tn kd mn cx cy wd gp9 a9 b) b9) + 1) : Int32) := by first | exact zn_eq (by rw [cntP_y (P := fun b => a9 < b ∧ clP ft st tn kd mn cx cy wd gp9 a9 b) ⟨by omega, by assumption⟩]; first | done | omega) | exact zn_eq (by rw [cntP_n (P := fun b => a9 < b ∧ clP ft st tn kd mn cx cy wd gp9 a9 b) (fun h => absurd h.2 (by first | with_reducible assumption | assumption))]; first | done | omega)
                    have hl9 : lv_has ls 5 [(4, .int (nI (b9 + 1))), (3, .int (nI a9)), (2, .int (nI (clT (clP ft st tn kd mn cx cy wd gp9) ft a9 + cntP (fun b => a9 < b ∧ clP ft st tn kd mn cx cy wd gp9 a9 b) (b9 + 1)))), (0, .ref k0), (1, .int gp9)] := by rw [e9_2]; exact hl9
                    exact ih_30 (b9 + 1) q_8 q_9 q_10 H locs ls (by first | with_reducible assumption | omega) (by first | with_reducible assumption | omega) hP hD hS hl9
            have e9_2 : nI (clT (clP ft st tn kd mn cx cy wd gp9) ft a9 + cntP (fun b => a9 < b ∧ clP ft st tn kd mn cx cy wd gp9 a9 b) (a9 + 1)) = (nI (clT (clP ft st tn kd mn cx cy wd gp9) ft a9) : Int32) := by exact zn_eq (by rw [cl_0 (clP ft st tn kd mn cx cy wd gp9) a9 (a9 + 1) (Nat.le_refl _)]; rfl)
            have hl9 : lv_has ls 5 [(4, .int (nI (a9 + 1))), (3, .int (nI a9)), (2, .int (nI (clT (clP ft st tn kd mn cx cy wd gp9) ft a9 + cntP (fun b => a9 < b ∧ clP ft st tn kd mn cx cy wd gp9 a9 b) (a9 + 1)))), (0, .ref k0), (1, .int gp9)] := by rw [e9_2]; exact lv_sub hl [0, 1, 2, 3, 4] rfl
            exact hl_30 _ (a9 + 1) u9 d9 S1 H locs ls (Nat.lt_succ_self _) (by first | with_reducible assumption | omega) hP hD hS hl9
      have e9_2 : nI (clT (clP ft st tn kd mn cx cy wd gp9) ft 0) = (0 : Int32) := by rfl
      have hl9 : lv_has ls 5 [(3, .int (nI 0)), (2, .int (nI (clT (clP ft st tn kd mn cx cy wd gp9) ft 0))), (0, .ref k0), (1, .int gp9)] := by rw [e9_2]; exact lv_sub hl [0, 1, 2, 3] rfl
      exact hl_17 _ 0 (J0 48) (J0 49) S0 s.heap [] ls (Nat.lt_succ_self _) (by first | with_reducible assumption | omega) hP hD hS hl9
    · have c_2 : 200 < gp9.toInt := zc_nle rfl rfl c_2
      exfalso; omega
set_option maxHeartbeats 4000000 in
set_option maxRecDepth 100000 in
theorem k_M_clash_r (l : Launch) (dC : Nat → ClassId) (dI : Nat → Nat → Nat) (cI cZ cF : ClassId) (sz : Nat) (k0 : Nat) (a : Nat → Nat) (I0 : Nat → Int32) (J0 : Nat → Int64) (gp9 : Int32) (iv : Int32) (w : Int32) (hgp : ¬ (0 ≤ gp9.toInt ∧ gp9.toInt ≤ 200 ∧ 0 ≤ iv.toInt ∧ 0 ≤ w.toInt ∧ w.toInt ≤ 1)) : zM l yX11_clash cX11_clash 7 (some .int) ({ frames := 0, cells := 0, slots := 0, locals := 0 } : Room) [.ref k0, .int gp9, .int iv, .int w] (dC, dI) (zTy cI cZ cF) [(om k0 a I0 J0)] sz (some (.int (-1))) (fun A t => zPD (dC, dI) classes A [(om k0 a I0 J0)] t.heap) 0 0 := by
  refine zIn (own := "ScaleShopModel") (loc := [(0, .ref k0), (1, .int gp9), (2, .int iv), (3, .int w)]) rfl rfl rfl rfl (fun p e s m below meth c hx hb hr hts hown hlocks hml hnm9 A hA hS hP hD hK hXN Q9 hQ9 ls hl => ?_)
  refine lv_iload_n hx hb dX11_clash_0 rfl (lv_at hl 1 rfl) ?_
  refine lv_if_lt (tgt := 24) hx hb dX11_clash_1 rfl (fun c_1 => ?_) (fun c_1 => ?_)
  · have c_1 : gp9.toInt < 0 := zc_lt rfl rfl c_1
    refine lv_iconst (v := (-1)) hx hb dX11_clash_24 rfl ?_
    obtain ⟨hP9, hD9⟩ := zu_sub (wc := [_]) hP hD [true] rfl rfl
    rw [hQ9]
    exact W.iret (v := (-1)) hx hb hr (fun t ht hW => ⟨⟨rfl, by rw [ht]; exact hP9, hD9⟩, hS.F ht⟩) hS.2.2 dX11_clash_25
  · have c_1 : 0 ≤ gp9.toInt := zc_nlt rfl rfl c_1
    refine lv_iload_n hx hb dX11_clash_4 rfl (lv_at hl 1 rfl) ?_
    refine lv_sipush (v := 200) hx hb dX11_clash_5 rfl ?_
    refine lv_icmp_gt (tgt := 24) hx hb dX11_clash_8 rfl (fun c_2 => ?_) (fun c_2 => ?_)
    · have c_2 : 200 < gp9.toInt := zc_lt rfl rfl c_2
      refine lv_iconst (v := (-1)) hx hb dX11_clash_24 rfl ?_
      obtain ⟨hP9, hD9⟩ := zu_sub (wc := [_]) hP hD [true] rfl rfl
      rw [hQ9]
      exact W.iret (v := (-1)) hx hb hr (fun t ht hW => ⟨⟨rfl, by rw [ht]; exact hP9, hD9⟩, hS.F ht⟩) hS.2.2 dX11_clash_25
    · have c_2 : gp9.toInt ≤ 200 := zc_nlt rfl rfl c_2
      refine lv_iload_n hx hb dX11_clash_11 rfl (lv_at hl 2 rfl) ?_
      refine lv_if_lt (tgt := 24) hx hb dX11_clash_12 rfl (fun c_3 => ?_) (fun c_3 => ?_)
      · have c_3 : iv.toInt < 0 := zc_lt rfl rfl c_3
        refine lv_iconst (v := (-1)) hx hb dX11_clash_24 rfl ?_
        obtain ⟨hP9, hD9⟩ := zu_sub (wc := [_]) hP hD [true] rfl rfl
        rw [hQ9]
        exact W.iret (v := (-1)) hx hb hr (fun t ht hW => ⟨⟨rfl, by rw [ht]; exact hP9, hD9⟩, hS.F ht⟩) hS.2.2 dX11_clash_25
      · have c_3 : 0 ≤ iv.toInt := zc_nlt rfl rfl c_3
        refine lv_iload_n hx hb dX11_clash_15 rfl (lv_at hl 3 rfl) ?_
        refine lv_if_lt (tgt := 24) hx hb dX11_clash_16 rfl (fun c_4 => ?_) (fun c_4 => ?_)
        · have c_4 : w.toInt < 0 := zc_lt rfl rfl c_4
          refine lv_iconst (v := (-1)) hx hb dX11_clash_24 rfl ?_
          obtain ⟨hP9, hD9⟩ := zu_sub (wc := [_]) hP hD [true] rfl rfl
          rw [hQ9]
          exact W.iret (v := (-1)) hx hb hr (fun t ht hW => ⟨⟨rfl, by rw [ht]; exact hP9, hD9⟩, hS.F ht⟩) hS.2.2 dX11_clash_25
        · have c_4 : 0 ≤ w.toInt := zc_nlt rfl rfl c_4
          refine lv_iload_n hx hb dX11_clash_19 rfl (lv_at hl 3 rfl) ?_
          refine lv_iconst (v := 1) hx hb dX11_clash_20 rfl ?_
          refine lv_icmp_le (tgt := 26) hx hb dX11_clash_21 rfl (fun c_5 => ?_) (fun c_5 => ?_)
          · have c_5 : w.toInt ≤ 1 := zc_le rfl rfl c_5
            exfalso; omega
          · have c_5 : 1 < w.toInt := zc_nle rfl rfl c_5
            refine lv_iconst (v := (-1)) hx hb dX11_clash_24 rfl ?_
            obtain ⟨hP9, hD9⟩ := zu_sub (wc := [_]) hP hD [true] rfl rfl
            rw [hQ9]
            exact W.iret (v := (-1)) hx hb hr (fun t ht hW => ⟨⟨rfl, by rw [ht]; exact hP9, hD9⟩, hS.F ht⟩) hS.2.2 dX11_clash_25
set_option maxHeartbeats 4000000 in
set_option maxRecDepth 100000 in
theorem k_M_clash_y0 (l : Launch) (dC : Nat → ClassId) (dI : Nat → Nat → Nat) (cI cZ cF : ClassId) (sz : Nat) (k0 : Nat) (a : Nat → Nat) (I0 : Nat → Int32) (J0 : Nat → Int64) (ft : Nat) (i : Nat) (a7 : Nat) (b7 : Nat) (gp9 : Int32) (st : Nat → Int32) (tn : Nat → Int32) (kd : Nat → Int32) (mn : Nat → Int32) (cx : Nat → Int32) (cy : Nat → Int32) (S0 : Nat → Int32) (wd : Nat → Int32) (hft : I0 0 = nI ft) (h200 : ft ≤ 200) (hwf : ∀ q, lvF ft st tn q → wfM mn cx cy q) (hef : ∀ q, lvF ft st tn q → 1 ≤ eO (kd q).toInt (nN (mn q))) (hwd : ∀ q, q < ft → 0 ≤ (wd q).toInt ∧ (wd q).toInt ≤ 100) (hgp : 0 ≤ gp9.toInt ∧ gp9.toInt ≤ 200) (hi31 : i < 2147483648) (hit : clI (clP ft st tn kd mn cx cy wd gp9) ft a7 b7 i) : zM l yX11_clash cX11_clash 7 (some .int) ({ frames := 6, cells := 0, slots := 0, locals := 154 } : Room) [.ref k0, .int gp9, .int (nI i), .int 0] (dC, dI) (zTy cI cZ cF) [(om k0 a I0 J0), (oa (a 5) cI 201 st), (oa (a 6) cZ 201 tn), (oa (a 1) cI 201 kd), (oa (a 11) cI 201 mn), (oa (a 12) cI 8040 cx), (oa (a 13) cI 8040 cy), (oa (a 32) cI 8 S0), (oa (a 3) cI 201 wd)] sz (some (.int (nI a7))) (fun A t => ∃ (u9 : Int64), ∃ (d9 : Int64), ∃ (S1 : Nat → Int32), zPD (dC, dI) classes A [(om k0 a I0 (vp_updL (vp_updL J0 48 u9) 49 d9)), (oa (a 5) cI 201 st), (oa (a 6) cZ 201 tn), (oa (a 1) cI 201 kd), (oa (a 11) cI 201 mn), (oa (a 12) cI 8040 cx), (oa (a 13) cI 8040 cy), (oa (a 32) cI 8 S1), (oa (a 3) cI 201 wd)] t.heap) 0 0 := by
  refine zIn (own := "ScaleShopModel") (loc := [(0, .ref k0), (1, .int gp9), (2, .int (nI i)), (3, .int 0)]) rfl rfl rfl rfl (fun p e s m below meth c hx hb hr hts hown hlocks hml hnm9 A hA hS hP hD hK hXN Q9 hQ9 ls hl => ?_)
  refine lv_iload_n hx hb dX11_clash_0 rfl (lv_at hl 1 rfl) ?_
  refine lv_if_lt (tgt := 24) hx hb dX11_clash_1 rfl (fun c_1 => ?_) (fun c_1 => ?_)
  · have c_1 : gp9.toInt < 0 := zc_lt rfl rfl c_1
    exfalso; omega
  · have c_1 : 0 ≤ gp9.toInt := zc_nlt rfl rfl c_1
    refine lv_iload_n hx hb dX11_clash_4 rfl (lv_at hl 1 rfl) ?_
    refine lv_sipush (v := 200) hx hb dX11_clash_5 rfl ?_
    refine lv_icmp_gt (tgt := 24) hx hb dX11_clash_8 rfl (fun c_2 => ?_) (fun c_2 => ?_)
    · have c_2 : 200 < gp9.toInt := zc_lt rfl rfl c_2
      exfalso; omega
    · have c_2 : gp9.toInt ≤ 200 := zc_nlt rfl rfl c_2
      refine lv_iload_n hx hb dX11_clash_11 rfl (lv_at hl 2 rfl) ?_
      have b9_4 : zlt (i) := show i < 2147483648 by omega
      refine lv_if_lt (tgt := 24) hx hb dX11_clash_12 rfl (fun c_3 => ?_) (fun c_3 => ?_)
      · have c_3 : ((i : Nat) : Int) < 0 := zc_lt (nI_toInt b9_4) rfl c_3
        exfalso; omega
      · have c_3 : 0 ≤ ((i : Nat) : Int) := zc_nlt (nI_toInt b9_4) rfl c_3
        refine lv_iload_n hx hb dX11_clash_15 rfl (lv_at hl 3 rfl) ?_
        refine lv_if_lt (tgt := 24) hx hb dX11_clash_16 rfl (fun c_5 => ?_) (fun c_5 => ?_)
        · exact absurd c_5 (by decide)
        · refine lv_iload_n hx hb dX11_clash_19 rfl (lv_at hl 3 rfl) ?_
          refine lv_iconst (v := 1) hx hb dX11_clash_20 rfl ?_
          refine lv_icmp_le (tgt := 26) hx hb dX11_clash_21 rfl (fun c_6 => ?_) (fun c_6 => ?_)
          · refine lv_iconst (v := 0) hx hb dX11_clash_26 rfl ?_
            refine lv_istore (lv' := [(4, .int 0), (0, .ref k0), (1, .int gp9), (2, .int (nI i)), (3, .int 0)]) hx hb dX11_clash_27 hl (Nat.le_of_ble_eq_true rfl) rfl (fun ls hl => ?_)
            refine lv_iconst (v := 0) hx hb dX11_clash_29 rfl ?_
            refine lv_istore (lv' := [(5, .int 0), (4, .int 0), (0, .ref k0), (1, .int gp9), (2, .int (nI i)), (3, .int 0)]) hx hb dX11_clash_30 hl (Nat.le_of_ble_eq_true rfl) rfl (fun ls hl => ?_)
            have hl_32 : ∀ (n9 : Nat) (a9 : Nat) (u9 : Int64) (d9 : Int64) (S1 : Nat → Int32) (H : Heap) (locs : List Loc) (ls : Array Slot), ft - a9 < n9 → (a9 ≤ ft) → (∀ a8 b8, a8 < a9 → ¬ clI (clP ft st tn kd mn cx cy wd gp9) ft a8 b8 i) → va_P (dC, dI) classes [(om k0 a I0 (vp_updL (vp_updL J0 48 u9) 49 d9)), (oa (a 5) cI 201 st), (oa (a 6) cZ 201 tn), (oa (a 1) cI 201 kd), (oa (a 11) cI 201 mn), (oa (a 12) cI 8040 cx), (oa (a 13) cI 8040 cy), (oa (a 32) cI 8 S1), (oa (a 3) cI 201 wd)] H → va_D A [(om k0 a I0 (vp_updL (vp_updL J0 48 u9) 49 d9)), (oa (a 5) cI 201 st), (oa (a 6) cZ 201 tn), (oa (a 1) cI 201 kd), (oa (a 11) cI 201 mn), (oa (a 12) cI 8040 cx), (oa (a 13) cI 8040 cy), (oa (a 32) cI 8 S1), (oa (a 3) cI 201 wd)] → va_S A s.heap H locs → lv_has ls 7 [(5, .int (nI a9)), (4, .int (nI (clT (clP ft st tn kd mn cx cy wd gp9) ft a9))), (0, .ref k0), (1, .int gp9), (2, .int (nI i)), (3, .int 0)] → W p l e ({ frames := 6, cells := 0, slots := 0, locals := 154 } : Room) s m ([.ref k0, .int gp9, .int (nI i), .int 0] : List Value).toArray below meth c H locs 0 0 Q9 (F0 m 32 ls []) := by
              intro n9
              induction n9 with
              | zero => intro a9 u9 d9 S1 H locs ls hm; exact absurd hm (Nat.not_lt_zero _)
              | succ n9 ih_32 =>
                intro a9 u9 d9 S1 H locs ls hm ha9 hno hP hD hS hl
                have hct := clT_200 (clP ft st tn kd mn cx cy wd gp9) h200 ha9
                refine lv_iload hx hb dX11_clash_32 (lv_at hl 0 rfl) ?_
                refine lv_aload_n hx hb dX11_clash_34 rfl (lv_at hl 2 rfl) ?_
                refine va_get (D := (dC, dI)) (ci := 9) (v := .int (I0 0)) (C := RX11) (T := TX11) (N := 55) hx hb hts inX11 hown hK hP 0 rfl rfl 0 (Nat.le_of_ble_eq_true rfl) (hts _ mw_1159) (fun _ h9 => h9) rfl dX11_clash_35 ?_
                refine zz_i (v := nI ft) (hft) ?_
                have b9_8 : zlt (a9) := show a9 < 2147483648 by omega
                have b9_9 : zlt (ft) := show ft < 2147483648 by omega
                refine lv_icmp_ge (tgt := 104) hx hb dX11_clash_38 rfl (fun c_7 => ?_) (fun c_7 => ?_)
                · have c_7 : ((ft : Nat) : Int) ≤ ((a9 : Nat) : Int) := zc_le (nI_toInt b9_9) (nI_toInt b9_8) c_7
                  exfalso; exact hno a7 b7 (by have := hit.1; have := hit.2.1; omega) hit
                · have c_7 : ((a9 : Nat) : Int) < ((ft : Nat) : Int) := zc_nle (nI_toInt b9_9) (nI_toInt b9_8) c_7
                  refine lv_iload hx hb dX11_clash_41 (lv_at hl 0 rfl) ?_
                  refine lv_iconst (v := 1) hx hb dX11_clash_43 rfl ?_
                  refine lv_iadd hx hb dX11_clash_44 ?_
                  refine zz_i (v := nI (a9 + 1)) (nI_add a9 1) ?_
                  refine lv_istore (lv' := [(6, .int (nI (a9 + 1))), (5, .int (nI a9)), (4, .int (nI (clT (clP ft st tn kd mn cx cy wd gp9) ft a9))), (0, .ref k0), (1, .int gp9), (2, .int (nI i)), (3, .int 0)]) hx hb dX11_clash_45 hl (Nat.le_of_ble_eq_true rfl) rfl (fun ls hl => ?_)
                  have hl_47 : ∀ (n9 : Nat) (b9 : Nat) (u9 : Int64) (d9 : Int64) (S1 : Nat → Int32) (H : Heap) (locs : List Loc) (ls : Array Slot), ft - b9 < n9 → (a9 < b9 ∧ b9 ≤ ft) → (∀ b8, b8 < b9 → ¬ clI (clP ft st tn kd mn cx cy wd gp9) ft a9 b8 i) → va_P (dC, dI) classes [(om k0 a I0 (vp_updL (vp_updL J0 48 u9) 49 d9)), (oa (a 5) cI 201 st), (oa (a 6) cZ 201 tn), (oa (a 1) cI 201 kd), (oa (a 11) cI 201 mn), (oa (a 12) cI 8040 cx), (oa (a 13) cI 8040 cy), (oa (a 32) cI 8 S1), (oa (a 3) cI 201 wd)] H → va_D A [(om k0 a I0 (vp_updL (vp_updL J0 48 u9) 49 d9)), (oa (a 5) cI 201 st), (oa (a 6) cZ 201 tn), (oa (a 1) cI 201 kd), (oa (a 11) cI 201 mn), (oa (a 12) cI 8040 cx), (oa (a 13) cI 8040 cy), (oa (a 32) cI 8 S1), (oa (a 3) cI 201 wd)] → va_S A s.heap H locs → lv_has ls 7 [(6, .int (nI b9)), (5, .int (nI a9)), (4, .int (nI (clT (clP ft st tn kd mn cx cy wd gp9) ft a9 + cntP (fun b => a9 < b ∧ clP ft st tn kd mn cx cy wd gp9 a9 b) b9))), (0, .ref k0), (1, .int gp9), (2, .int (nI i)), (3, .int 0)] → W p l e ({ frames := 6, cells := 0, slots := 0, locals := 154 } : Room) s m ([.ref k0, .int gp9, .int (nI i), .int 0] : List Value).toArray below meth c H locs 0 0 Q9 (F0 m 47 ls []) := by
                    intro n9
                    induction n9 with
                    | zero => intro b9 u9 d9 S1 H locs ls hm; exact absurd hm (Nat.not_lt_zero _)
                    | succ n9 ih_47 =>
                      intro b9 u9 d9 S1 H locs ls hm hb9 hnb hP hD hS hl
                      have hcn := cntP_b (fun b => a9 < b ∧ clP ft st tn kd mn cx cy wd gp9 a9 b) b9
                      refine lv_iload hx hb dX11_clash_47 (lv_at hl 0 rfl) ?_
                      refine lv_aload_n hx hb dX11_clash_49 rfl (lv_at hl 3 rfl) ?_
                      refine va_get (D := (dC, dI)) (ci := 9) (v := .int (I0 0)) (C := RX11) (T := TX11) (N := 55) hx hb hts inX11 hown hK hP 0 rfl rfl 0 (Nat.le_of_ble_eq_true rfl) (hts _ mw_1159) (fun _ h9 => h9) rfl dX11_clash_50 ?_
                      refine zz_i (v := nI ft) (hft) ?_
                      have b9_11 : zlt (b9) := show b9 < 2147483648 by omega
                      refine lv_icmp_ge (tgt := 98) hx hb dX11_clash_53 rfl (fun c_10 => ?_) (fun c_10 => ?_)
                      · have c_10 : ((ft : Nat) : Int) ≤ ((b9 : Nat) : Int) := zc_le (nI_toInt b9_9) (nI_toInt b9_11) c_10
                        refine lv_iinc (v := nI (a9 + 1)) (lv' := [(5, .int (nI (a9 + 1))), (6, .int (nI b9)), (4, .int (nI (clT (clP ft st tn kd mn cx cy wd gp9) ft a9 + cntP (fun b => a9 < b ∧ clP ft st tn kd mn cx cy wd gp9 a9 b) b9))), (0, .ref k0), (1, .int gp9), (2, .int (nI i)), (3, .int 0)]) hx hb dX11_clash_98 hl (k := 1) rfl (nI_add a9 1) (Nat.le_of_ble_eq_true rfl) rfl (fun ls hl => ?_)
                        refine lv_goto (tgt := 32) hx hb dX11_clash_101 rfl ?_
                        have hl9 := lv_sub hl [0, 2, 3, 4, 5, 6] rfl
                        have e9_4 : nI (clT (clP ft st tn kd mn cx cy wd gp9) ft (a9 + 1)) = (nI (clT (clP ft st tn kd mn cx cy wd gp9) ft a9 + cntP (fun b => a9 < b ∧ clP ft st tn kd mn cx cy wd gp9 a9 b) b9) : Int32) := by exact zn_eq (by rw [show b9 = ft by omega]; rfl)
                        have hl9 : lv_has ls 7 [(5, .int (nI (a9 + 1))), (4, .int (nI (clT (clP ft st tn kd mn cx cy wd gp9) ft (a9 + 1)))), (0, .ref k0), (1, .int gp9), (2, .int (nI i)), (3, .int 0)] := by rw [e9_4]; exact hl9
                        exact ih_32 (a9 + 1) u9 d9 S1 H locs ls (by first | with_reducible assumption | omega) (by first | with_reducible assumption | omega) (fun a8 b8 h h2 => (by rcases Nat.lt_or_ge a8 a9 with q | q; exact hno a8 b8 q h2; rw [show a8 = a9 by omega] at h2; exact hnb b8 (by have := h2.2.1; omega) h2)) hP hD hS hl9
                      · have c_10 : ((b9 : Nat) : Int) < ((ft : Nat) : Int) := zc_nle (nI_toInt b9_9) (nI_toInt b9_11) c_10
                        refine lv_aload_n hx hb dX11_clash_56 rfl (lv_at hl 3 rfl) ?_
                        refine lv_iload hx hb dX11_clash_57 (lv_at hl 1 rfl) ?_
                        refine lv_iload hx hb dX11_clash_59 (lv_at hl 0 rfl) ?_
                        refine lv_iload_n hx hb dX11_clash_61 rfl (lv_at hl 4 rfl) ?_
                        obtain ⟨hPc, hDc, hFc⟩ := zo_sub (wc := [_, _, _, _, _, _, _, _, _]) hP hD hS hA [0, 1, 2, 3, 4, 5, 6, 7, 8] (by decide +kernel) rfl
                        refine zcall (st1 := [.int (pI (clP ft st tn kd mn cx cy wd gp9 a9 b9))]) (va_runV (As := [.int (nI a9), .int (nI b9), .int gp9]) (rest := []) ⟨hx, hb, hml, hown, hts⟩ (k_M_isClash l dC dI cI cZ cF H.size k0 a I0 (vp_updL (vp_updL J0 48 u9) 49 d9) a9 b9 ft gp9 st tn kd mn cx cy S1 wd (by first | with_reducible assumption | assumption) (by first | with_reducible assumption | omega) (by first | with_reducible assumption | assumption) (by first | with_reducible assumption | assumption) (by first | with_reducible assumption | assumption) (by first | with_reducible assumption | assumption) (by first | with_reducible assumption | omega) (by first | with_reducible assumption | omega)) (csV_230 hts rfl rfl ⟨Nat.le_of_ble_eq_true rfl, Nat.le_of_ble_eq_true rfl⟩) (zPV2 (q0 := 0) (ci := 9) hPc hDc hK hXN rfl rfl) rfl rfl hl.1 rfl (lv_room (Nat.le_of_ble_eq_true rfl)) dX11_clash_62 ⟨Nat.le_of_ble_eq_true rfl, Nat.le_of_ble_eq_true rfl⟩) hS hFc hFc rfl (fun t H locs ht hB hk1 hS => ?_)
                        obtain ⟨q_12, q_13, q_14, hP1, hD1⟩ := hB
                        rw [ht] at hP1
                        obtain ⟨hP, hD⟩ := zn (W2 := [(om k0 a I0 (vp_updL (vp_updL J0 48 q_12) 49 q_13)), _, _, _, _, _, _, (oa (a 32) cI 8 q_14), _]) hP hD hk1 hFc hP1 hD1 zl_269 [] zl_270 zl_269 (by decide +kernel) rfl rfl rfl rfl rfl
                        clear hk1 hPc hDc hFc hP1 hD1 ht
                        refine lv_if_ne (tgt := 71) hx hb dX11_clash_65 rfl (fun c_15 => ?_) (fun c_15 => ?_)
                        · have c_15 : clP ft st tn kd mn cx cy wd gp9 a9 b9 := zp_1 c_15
                          refine lv_iload hx hb dX11_clash_71 (lv_at hl 2 rfl) ?_
                          refine lv_iload_n hx hb dX11_clash_73 rfl (lv_at hl 5 rfl) ?_
                          have b9_17 : zlt ((clT (clP ft st tn kd mn cx cy wd gp9) ft a9 + cntP (fun b => a9 < b ∧ clP ft st tn kd mn cx cy wd gp9 a9 b) b9)) := show (clT (clP ft st tn kd mn cx cy wd gp9) ft a9 + cntP (fun b => a9 < b ∧ clP ft st tn kd mn cx cy wd gp9 a9 b) b9) < 2147483648 by omega
                          refine lv_icmp_ne (tgt := 89) hx hb dX11_clash_74 rfl (fun c_16 => ?_) (fun c_16 => ?_)
                          · have c_16 : ¬ ((clT (clP ft st tn kd mn cx cy wd gp9) ft a9 + cntP (fun b => a9 < b ∧ clP ft st tn kd mn cx cy wd gp9 a9 b) b9 : Nat) : Int) = ((i : Nat) : Int) := zc_ne (nI_toInt b9_17) (nI_toInt b9_4) c_16
                            refine lv_iinc (v := nI ((clT (clP ft st tn kd mn cx cy wd gp9) ft a9 + cntP (fun b => a9 < b ∧ clP ft st tn kd mn cx cy wd gp9 a9 b) b9) + 1)) (lv' := [(4, .int (nI ((clT (clP ft st tn kd mn cx cy wd gp9) ft a9 + cntP (fun b => a9 < b ∧ clP ft st tn kd mn cx cy wd gp9 a9 b) b9) + 1))), (6, .int (nI b9)), (5, .int (nI a9)), (0, .ref k0), (1, .int gp9), (2, .int (nI i)), (3, .int 0)]) hx hb dX11_clash_89 hl (k := 2) rfl (nI_add (clT (clP ft st tn kd mn cx cy wd gp9) ft a9 + cntP (fun b => a9 < b ∧ clP ft st tn kd mn cx cy wd gp9 a9 b) b9) 1) (Nat.le_of_ble_eq_true rfl) rfl (fun ls hl => ?_)
                            refine lv_iinc (v := nI (b9 + 1)) (lv' := [(6, .int (nI (b9 + 1))), (4, .int (nI ((clT (clP ft st tn kd mn cx cy wd gp9) ft a9 + cntP (fun b => a9 < b ∧ clP ft st tn kd mn cx cy wd gp9 a9 b) b9) + 1))), (5, .int (nI a9)), (0, .ref k0), (1, .int gp9), (2, .int (nI i)), (3, .int 0)]) hx hb dX11_clash_92 hl (k := 1) rfl (nI_add b9 1) (Nat.le_of_ble_eq_true rfl) rfl (fun ls hl => ?_)
                            refine lv_goto (tgt := 47) hx hb dX11_clash_95 rfl ?_
                            have hl9 := lv_sub hl [0, 2, 1, 3, 4, 5, 6] rfl
                            have e9_4 : nI (clT (clP ft st tn kd mn cx cy wd gp9) ft a9 + cntP (fun b => a9 < b ∧ clP ft st tn kd mn cx cy wd gp9 a9 b) (b9 + 1)) = (nI ((clT (clP ft st tn kd mn cx cy wd gp9) ft a9 + cntP (fun b => a9 < b ∧ clP ft st tn kd mn cx cy wd gp9 a9 b) b9) + 1) : Int32) := by first | exact zn_eq (by rw [cntP_y (P := fun b => a9 < b ∧ clP ft st tn kd mn cx cy wd gp9 a9 b) ⟨by omega, by assumption⟩]; first | done | omega) | exact zn_eq (by rw [cntP_n (P := fun b => a9 < b ∧ clP ft st tn kd mn cx cy wd gp9 a9 b) (fun h => absurd h.2 (by first | with_reducible assumption | assumption))]; first | done | omega)
                            have hl9 : lv_has ls 7 [(6, .int (nI (b9 + 1))), (5, .int (nI a9)), (4, .int (nI (clT (clP ft st tn kd mn cx cy wd gp9) ft a9 + cntP (fun b => a9 < b ∧ clP ft st tn kd mn cx cy wd gp9 a9 b) (b9 + 1)))), (0, .ref k0), (1, .int gp9), (2, .int (nI i)), (3, .int 0)] := by rw [e9_4]; exact hl9
                            exact ih_47 (b9 + 1) q_12 q_13 q_14 H locs ls (by first | with_reducible assumption | omega) (by first | with_reducible assumption | omega) (fun b8 h h2 => (by rcases Nat.lt_or_ge b8 b9 with q | q; exact hnb b8 q h2; rw [show b8 = b9 by omega] at h2; first | exact absurd h2.2.2.1 (by first | with_reducible assumption | assumption) | (have h7 := h2.2.2.2; omega))) hP hD hS hl9
                          · have c_16 : ((clT (clP ft st tn kd mn cx cy wd gp9) ft a9 + cntP (fun b => a9 < b ∧ clP ft st tn kd mn cx cy wd gp9 a9 b) b9 : Nat) : Int) = ((i : Nat) : Int) := zc_eq (nI_toInt b9_17) (nI_toInt b9_4) c_16
                            have hci : clI (clP ft st tn kd mn cx cy wd gp9) ft a9 b9 i := ⟨by omega, by omega, by assumption, by omega⟩
                            refine lv_iload_n hx hb dX11_clash_77 rfl (lv_at hl 6 rfl) ?_
                            refine lv_if_ne (tgt := 86) hx hb dX11_clash_78 rfl (fun c_18 => ?_) (fun c_18 => ?_)
                            · exact absurd (by decide) c_18
                            · refine lv_iload hx hb dX11_clash_81 (lv_at hl 1 rfl) ?_
                              refine lv_goto (tgt := 88) hx hb dX11_clash_83 rfl ?_
                              obtain ⟨hP9, hD9⟩ := zu_sub (wc := [_, _, _, _, _, _, _, _, _]) hP hD [true, true, true, true, true, true, true, true, true] rfl rfl
                              rw [hQ9]
                              exact W.iret (v := nI a9) hx hb hr (fun t ht hW => ⟨⟨congrArg (fun z => Outcome.returned (some (Value.int z))) (show (nI a9 : Int32) = nI a7 from zn_eq (clI_u hci hit).1), q_12, q_13, q_14, by rw [ht]; exact hP9, hD9⟩, hS.F ht⟩) hS.2.2 dX11_clash_88
                        · have c_15 : ¬ (clP ft st tn kd mn cx cy wd gp9 a9 b9) := zp_0 c_15
                          refine lv_goto (tgt := 92) hx hb dX11_clash_68 rfl ?_
                          refine lv_iinc (v := nI (b9 + 1)) (lv' := [(6, .int (nI (b9 + 1))), (5, .int (nI a9)), (4, .int (nI (clT (clP ft st tn kd mn cx cy wd gp9) ft a9 + cntP (fun b => a9 < b ∧ clP ft st tn kd mn cx cy wd gp9 a9 b) b9))), (0, .ref k0), (1, .int gp9), (2, .int (nI i)), (3, .int 0)]) hx hb dX11_clash_92 hl (k := 0) rfl (nI_add b9 1) (Nat.le_of_ble_eq_true rfl) rfl (fun ls hl => ?_)
                          refine lv_goto (tgt := 47) hx hb dX11_clash_95 rfl ?_
                          have hl9 := lv_sub hl [0, 1, 2, 3, 4, 5, 6] rfl
                          have e9_4 : nI (clT (clP ft st tn kd mn cx cy wd gp9) ft a9 + cntP (fun b => a9 < b ∧ clP ft st tn kd mn cx cy wd gp9 a9 b) (b9 + 1)) = (nI (clT (clP ft st tn kd mn cx cy wd gp9) ft a9 + cntP (fun b => a9 < b ∧ clP ft st tn kd mn cx cy wd gp9 a9 b) b9) : Int32) := by first | exact zn_eq (by rw [cntP_y (P := fun b => a9 < b ∧ clP ft st tn kd mn cx cy wd gp9 a9 b) ⟨by omega, by assumption⟩]; first | done | omega) | exact zn_eq (by rw [cntP_n (P := fun b => a9 < b ∧ clP ft st tn kd mn cx cy wd gp9 a9 b) (fun h => absurd h.2 (by first | with_reducible assumption | assumption))]; first | done | omega)
                          have hl9 : lv_has ls 7 [(6, .int (nI (b9 + 1))), (5, .int (nI a9)), (4, .int (nI (clT (clP ft st tn kd mn cx cy wd gp9) ft a9 + cntP (fun b => a9 < b ∧ clP ft st tn kd mn cx cy wd gp9 a9 b) (b9 + 1)))), (0, .ref k0), (1, .int gp9), (2, .int (nI i)), (3, .int 0)] := by rw [e9_4]; exact hl9
                          exact ih_47 (b9 + 1) q_12 q_13 q_14 H locs ls (by first | with_reducible assumption | omega) (by first | with_reducible assumption | omega) (fun b8 h h2 => (by rcases Nat.lt_or_ge b8 b9 with q | q; exact hnb b8 q h2; rw [show b8 = b9 by omega] at h2; first | exact absurd h2.2.2.1 (by first | with_reducible assumption | assumption) | (have h7 := h2.2.2.2; omega))) hP hD hS hl9
                  have e9_4 : nI (clT (clP ft st tn kd mn cx cy wd gp9) ft a9 + cntP (fun b => a9 < b ∧ clP ft st tn kd mn cx cy wd gp9 a9 b) (a9 + 1)) = (nI (clT (clP ft st tn kd mn cx cy wd gp9) ft a9) : Int32) := by exact zn_eq (by rw [cl_0 (clP ft st tn kd mn cx cy wd gp9) a9 (a9 + 1) (Nat.le_refl _)]; rfl)
                  have hl9 : lv_has ls 7 [(6, .int (nI (a9 + 1))), (5, .int (nI a9)), (4, .int (nI (clT (clP ft st tn kd mn cx cy wd gp9) ft a9 + cntP (fun b => a9 < b ∧ clP ft st tn kd mn cx cy wd gp9 a9 b) (a9 + 1)))), (0, .ref k0), (1, .int gp9), (2, .int (nI i)), (3, .int 0)] := by rw [e9_4]; exact lv_sub hl [0, 1, 2, 3, 4, 5, 6] rfl
                  exact hl_47 _ (a9 + 1) u9 d9 S1 H locs ls (Nat.lt_succ_self _) (by first | with_reducible assumption | omega) (fun b8 h h2 => (by have := h2.1; omega)) hP hD hS hl9
            have e9_4 : nI (clT (clP ft st tn kd mn cx cy wd gp9) ft 0) = (0 : Int32) := by rfl
            have hl9 : lv_has ls 7 [(5, .int (nI 0)), (4, .int (nI (clT (clP ft st tn kd mn cx cy wd gp9) ft 0))), (0, .ref k0), (1, .int gp9), (2, .int (nI i)), (3, .int 0)] := by rw [e9_4]; exact lv_sub hl [0, 1, 2, 3, 4, 5] rfl
            exact hl_32 _ 0 (J0 48) (J0 49) S0 s.heap [] ls (Nat.lt_succ_self _) (by first | with_reducible assumption | omega) (fun a8 b8 h => absurd h (Nat.not_lt_zero _)) hP hD hS hl9
          · exact absurd (by decide) c_6
set_option maxHeartbeats 4000000 in
set_option maxRecDepth 100000 in
theorem k_M_clash_y1 (l : Launch) (dC : Nat → ClassId) (dI : Nat → Nat → Nat) (cI cZ cF : ClassId) (sz : Nat) (k0 : Nat) (a : Nat → Nat) (I0 : Nat → Int32) (J0 : Nat → Int64) (ft : Nat) (i : Nat) (a7 : Nat) (b7 : Nat) (gp9 : Int32) (st : Nat → Int32) (tn : Nat → Int32) (kd : Nat → Int32) (mn : Nat → Int32) (cx : Nat → Int32) (cy : Nat → Int32) (S0 : Nat → Int32) (wd : Nat → Int32) (hft : I0 0 = nI ft) (h200 : ft ≤ 200) (hwf : ∀ q, lvF ft st tn q → wfM mn cx cy q) (hef : ∀ q, lvF ft st tn q → 1 ≤ eO (kd q).toInt (nN (mn q))) (hwd : ∀ q, q < ft → 0 ≤ (wd q).toInt ∧ (wd q).toInt ≤ 100) (hgp : 0 ≤ gp9.toInt ∧ gp9.toInt ≤ 200) (hi31 : i < 2147483648) (hit : clI (clP ft st tn kd mn cx cy wd gp9) ft a7 b7 i) : zM l yX11_clash cX11_clash 7 (some .int) ({ frames := 6, cells := 0, slots := 0, locals := 154 } : Room) [.ref k0, .int gp9, .int (nI i), .int 1] (dC, dI) (zTy cI cZ cF) [(om k0 a I0 J0), (oa (a 5) cI 201 st), (oa (a 6) cZ 201 tn), (oa (a 1) cI 201 kd), (oa (a 11) cI 201 mn), (oa (a 12) cI 8040 cx), (oa (a 13) cI 8040 cy), (oa (a 32) cI 8 S0), (oa (a 3) cI 201 wd)] sz (some (.int (nI b7))) (fun A t => ∃ (u9 : Int64), ∃ (d9 : Int64), ∃ (S1 : Nat → Int32), zPD (dC, dI) classes A [(om k0 a I0 (vp_updL (vp_updL J0 48 u9) 49 d9)), (oa (a 5) cI 201 st), (oa (a 6) cZ 201 tn), (oa (a 1) cI 201 kd), (oa (a 11) cI 201 mn), (oa (a 12) cI 8040 cx), (oa (a 13) cI 8040 cy), (oa (a 32) cI 8 S1), (oa (a 3) cI 201 wd)] t.heap) 0 0 := by
  refine zIn (own := "ScaleShopModel") (loc := [(0, .ref k0), (1, .int gp9), (2, .int (nI i)), (3, .int 1)]) rfl rfl rfl rfl (fun p e s m below meth c hx hb hr hts hown hlocks hml hnm9 A hA hS hP hD hK hXN Q9 hQ9 ls hl => ?_)
  refine lv_iload_n hx hb dX11_clash_0 rfl (lv_at hl 1 rfl) ?_
  refine lv_if_lt (tgt := 24) hx hb dX11_clash_1 rfl (fun c_1 => ?_) (fun c_1 => ?_)
  · have c_1 : gp9.toInt < 0 := zc_lt rfl rfl c_1
    exfalso; omega
  · have c_1 : 0 ≤ gp9.toInt := zc_nlt rfl rfl c_1
    refine lv_iload_n hx hb dX11_clash_4 rfl (lv_at hl 1 rfl) ?_
    refine lv_sipush (v := 200) hx hb dX11_clash_5 rfl ?_
    refine lv_icmp_gt (tgt := 24) hx hb dX11_clash_8 rfl (fun c_2 => ?_) (fun c_2 => ?_)
    · have c_2 : 200 < gp9.toInt := zc_lt rfl rfl c_2
      exfalso; omega
    · have c_2 : gp9.toInt ≤ 200 := zc_nlt rfl rfl c_2
      refine lv_iload_n hx hb dX11_clash_11 rfl (lv_at hl 2 rfl) ?_
      have b9_4 : zlt (i) := show i < 2147483648 by omega
      refine lv_if_lt (tgt := 24) hx hb dX11_clash_12 rfl (fun c_3 => ?_) (fun c_3 => ?_)
      · have c_3 : ((i : Nat) : Int) < 0 := zc_lt (nI_toInt b9_4) rfl c_3
        exfalso; omega
      · have c_3 : 0 ≤ ((i : Nat) : Int) := zc_nlt (nI_toInt b9_4) rfl c_3
        refine lv_iload_n hx hb dX11_clash_15 rfl (lv_at hl 3 rfl) ?_
        refine lv_if_lt (tgt := 24) hx hb dX11_clash_16 rfl (fun c_5 => ?_) (fun c_5 => ?_)
        · exact absurd c_5 (by decide)
        · refine lv_iload_n hx hb dX11_clash_19 rfl (lv_at hl 3 rfl) ?_
          refine lv_iconst (v := 1) hx hb dX11_clash_20 rfl ?_
          refine lv_icmp_le (tgt := 26) hx hb dX11_clash_21 rfl (fun c_6 => ?_) (fun c_6 => ?_)
          · refine lv_iconst (v := 0) hx hb dX11_clash_26 rfl ?_
            refine lv_istore (lv' := [(4, .int 0), (0, .ref k0), (1, .int gp9), (2, .int (nI i)), (3, .int 1)]) hx hb dX11_clash_27 hl (Nat.le_of_ble_eq_true rfl) rfl (fun ls hl => ?_)
            refine lv_iconst (v := 0) hx hb dX11_clash_29 rfl ?_
            refine lv_istore (lv' := [(5, .int 0), (4, .int 0), (0, .ref k0), (1, .int gp9), (2, .int (nI i)), (3, .int 1)]) hx hb dX11_clash_30 hl (Nat.le_of_ble_eq_true rfl) rfl (fun ls hl => ?_)
            have hl_32 : ∀ (n9 : Nat) (a9 : Nat) (u9 : Int64) (d9 : Int64) (S1 : Nat → Int32) (H : Heap) (locs : List Loc) (ls : Array Slot), ft - a9 < n9 → (a9 ≤ ft) → (∀ a8 b8, a8 < a9 → ¬ clI (clP ft st tn kd mn cx cy wd gp9) ft a8 b8 i) → va_P (dC, dI) classes [(om k0 a I0 (vp_updL (vp_updL J0 48 u9) 49 d9)), (oa (a 5) cI 201 st), (oa (a 6) cZ 201 tn), (oa (a 1) cI 201 kd), (oa (a 11) cI 201 mn), (oa (a 12) cI 8040 cx), (oa (a 13) cI 8040 cy), (oa (a 32) cI 8 S1), (oa (a 3) cI 201 wd)] H → va_D A [(om k0 a I0 (vp_updL (vp_updL J0 48 u9) 49 d9)), (oa (a 5) cI 201 st), (oa (a 6) cZ 201 tn), (oa (a 1) cI 201 kd), (oa (a 11) cI 201 mn), (oa (a 12) cI 8040 cx), (oa (a 13) cI 8040 cy), (oa (a 32) cI 8 S1), (oa (a 3) cI 201 wd)] → va_S A s.heap H locs → lv_has ls 7 [(5, .int (nI a9)), (4, .int (nI (clT (clP ft st tn kd mn cx cy wd gp9) ft a9))), (0, .ref k0), (1, .int gp9), (2, .int (nI i)), (3, .int 1)] → W p l e ({ frames := 6, cells := 0, slots := 0, locals := 154 } : Room) s m ([.ref k0, .int gp9, .int (nI i), .int 1] : List Value).toArray below meth c H locs 0 0 Q9 (F0 m 32 ls []) := by
              intro n9
              induction n9 with
              | zero => intro a9 u9 d9 S1 H locs ls hm; exact absurd hm (Nat.not_lt_zero _)
              | succ n9 ih_32 =>
                intro a9 u9 d9 S1 H locs ls hm ha9 hno hP hD hS hl
                have hct := clT_200 (clP ft st tn kd mn cx cy wd gp9) h200 ha9
                refine lv_iload hx hb dX11_clash_32 (lv_at hl 0 rfl) ?_
                refine lv_aload_n hx hb dX11_clash_34 rfl (lv_at hl 2 rfl) ?_
                refine va_get (D := (dC, dI)) (ci := 9) (v := .int (I0 0)) (C := RX11) (T := TX11) (N := 55) hx hb hts inX11 hown hK hP 0 rfl rfl 0 (Nat.le_of_ble_eq_true rfl) (hts _ mw_1159) (fun _ h9 => h9) rfl dX11_clash_35 ?_
                refine zz_i (v := nI ft) (hft) ?_
                have b9_8 : zlt (a9) := show a9 < 2147483648 by omega
                have b9_9 : zlt (ft) := show ft < 2147483648 by omega
                refine lv_icmp_ge (tgt := 104) hx hb dX11_clash_38 rfl (fun c_7 => ?_) (fun c_7 => ?_)
                · have c_7 : ((ft : Nat) : Int) ≤ ((a9 : Nat) : Int) := zc_le (nI_toInt b9_9) (nI_toInt b9_8) c_7
                  exfalso; exact hno a7 b7 (by have := hit.1; have := hit.2.1; omega) hit
                · have c_7 : ((a9 : Nat) : Int) < ((ft : Nat) : Int) := zc_nle (nI_toInt b9_9) (nI_toInt b9_8) c_7
                  refine lv_iload hx hb dX11_clash_41 (lv_at hl 0 rfl) ?_
                  refine lv_iconst (v := 1) hx hb dX11_clash_43 rfl ?_
                  refine lv_iadd hx hb dX11_clash_44 ?_
                  refine zz_i (v := nI (a9 + 1)) (nI_add a9 1) ?_
                  refine lv_istore (lv' := [(6, .int (nI (a9 + 1))), (5, .int (nI a9)), (4, .int (nI (clT (clP ft st tn kd mn cx cy wd gp9) ft a9))), (0, .ref k0), (1, .int gp9), (2, .int (nI i)), (3, .int 1)]) hx hb dX11_clash_45 hl (Nat.le_of_ble_eq_true rfl) rfl (fun ls hl => ?_)
                  have hl_47 : ∀ (n9 : Nat) (b9 : Nat) (u9 : Int64) (d9 : Int64) (S1 : Nat → Int32) (H : Heap) (locs : List Loc) (ls : Array Slot), ft - b9 < n9 → (a9 < b9 ∧ b9 ≤ ft) → (∀ b8, b8 < b9 → ¬ clI (clP ft st tn kd mn cx cy wd gp9) ft a9 b8 i) → va_P (dC, dI) classes [(om k0 a I0 (vp_updL (vp_updL J0 48 u9) 49 d9)), (oa (a 5) cI 201 st), (oa (a 6) cZ 201 tn), (oa (a 1) cI 201 kd), (oa (a 11) cI 201 mn), (oa (a 12) cI 8040 cx), (oa (a 13) cI 8040 cy), (oa (a 32) cI 8 S1), (oa (a 3) cI 201 wd)] H → va_D A [(om k0 a I0 (vp_updL (vp_updL J0 48 u9) 49 d9)), (oa (a 5) cI 201 st), (oa (a 6) cZ 201 tn), (oa (a 1) cI 201 kd), (oa (a 11) cI 201 mn), (oa (a 12) cI 8040 cx), (oa (a 13) cI 8040 cy), (oa (a 32) cI 8 S1), (oa (a 3) cI 201 wd)] → va_S A s.heap H locs → lv_has ls 7 [(6, .int (nI b9)), (5, .int (nI a9)), (4, .int (nI (clT (clP ft st tn kd mn cx cy wd gp9) ft a9 + cntP (fun b => a9 < b ∧ clP ft st tn kd mn cx cy wd gp9 a9 b) b9))), (0, .ref k0), (1, .int gp9), (2, .int (nI i)), (3, .int 1)] → W p l e ({ frames := 6, cells := 0, slots := 0, locals := 154 } : Room) s m ([.ref k0, .int gp9, .int (nI i), .int 1] : List Value).toArray below meth c H locs 0 0 Q9 (F0 m 47 ls []) := by
                    intro n9
                    induction n9 with
                    | zero => intro b9 u9 d9 S1 H locs ls hm; exact absurd hm (Nat.not_lt_zero _)
                    | succ n9 ih_47 =>
                      intro b9 u9 d9 S1 H locs ls hm hb9 hnb hP hD hS hl
                      have hcn := cntP_b (fun b => a9 < b ∧ clP ft st tn kd mn cx cy wd gp9 a9 b) b9
                      refine lv_iload hx hb dX11_clash_47 (lv_at hl 0 rfl) ?_
                      refine lv_aload_n hx hb dX11_clash_49 rfl (lv_at hl 3 rfl) ?_
                      refine va_get (D := (dC, dI)) (ci := 9) (v := .int (I0 0)) (C := RX11) (T := TX11) (N := 55) hx hb hts inX11 hown hK hP 0 rfl rfl 0 (Nat.le_of_ble_eq_true rfl) (hts _ mw_1159) (fun _ h9 => h9) rfl dX11_clash_50 ?_
                      refine zz_i (v := nI ft) (hft) ?_
                      have b9_11 : zlt (b9) := show b9 < 2147483648 by omega
                      refine lv_icmp_ge (tgt := 98) hx hb dX11_clash_53 rfl (fun c_10 => ?_) (fun c_10 => ?_)
                      · have c_10 : ((ft : Nat) : Int) ≤ ((b9 : Nat) : Int) := zc_le (nI_toInt b9_9) (nI_toInt b9_11) c_10
                        refine lv_iinc (v := nI (a9 + 1)) (lv' := [(5, .int (nI (a9 + 1))), (6, .int (nI b9)), (4, .int (nI (clT (clP ft st tn kd mn cx cy wd gp9) ft a9 + cntP (fun b => a9 < b ∧ clP ft st tn kd mn cx cy wd gp9 a9 b) b9))), (0, .ref k0), (1, .int gp9), (2, .int (nI i)), (3, .int 1)]) hx hb dX11_clash_98 hl (k := 1) rfl (nI_add a9 1) (Nat.le_of_ble_eq_true rfl) rfl (fun ls hl => ?_)
                        refine lv_goto (tgt := 32) hx hb dX11_clash_101 rfl ?_
                        have hl9 := lv_sub hl [0, 2, 3, 4, 5, 6] rfl
                        have e9_4 : nI (clT (clP ft st tn kd mn cx cy wd gp9) ft (a9 + 1)) = (nI (clT (clP ft st tn kd mn cx cy wd gp9) ft a9 + cntP (fun b => a9 < b ∧ clP ft st tn kd mn cx cy wd gp9 a9 b) b9) : Int32) := by exact zn_eq (by rw [show b9 = ft by omega]; rfl)
                        have hl9 : lv_has ls 7 [(5, .int (nI (a9 + 1))), (4, .int (nI (clT (clP ft st tn kd mn cx cy wd gp9) ft (a9 + 1)))), (0, .ref k0), (1, .int gp9), (2, .int (nI i)), (3, .int 1)] := by rw [e9_4]; exact hl9
                        exact ih_32 (a9 + 1) u9 d9 S1 H locs ls (by first | with_reducible assumption | omega) (by first | with_reducible assumption | omega) (fun a8 b8 h h2 => (by rcases Nat.lt_or_ge a8 a9 with q | q; exact hno a8 b8 q h2; rw [show a8 = a9 by omega] at h2; exact hnb b8 (by have := h2.2.1; omega) h2)) hP hD hS hl9
                      · have c_10 : ((b9 : Nat) : Int) < ((ft : Nat) : Int) := zc_nle (nI_toInt b9_9) (nI_toInt b9_11) c_10
                        refine lv_aload_n hx hb dX11_clash_56 rfl (lv_at hl 3 rfl) ?_
                        refine lv_iload hx hb dX11_clash_57 (lv_at hl 1 rfl) ?_
                        refine lv_iload hx hb dX11_clash_59 (lv_at hl 0 rfl) ?_
                        refine lv_iload_n hx hb dX11_clash_61 rfl (lv_at hl 4 rfl) ?_
                        obtain ⟨hPc, hDc, hFc⟩ := zo_sub (wc := [_, _, _, _, _, _, _, _, _]) hP hD hS hA [0, 1, 2, 3, 4, 5, 6, 7, 8] (by decide +kernel) rfl
                        refine zcall (st1 := [.int (pI (clP ft st tn kd mn cx cy wd gp9 a9 b9))]) (va_runV (As := [.int (nI a9), .int (nI b9), .int gp9]) (rest := []) ⟨hx, hb, hml, hown, hts⟩ (k_M_isClash l dC dI cI cZ cF H.size k0 a I0 (vp_updL (vp_updL J0 48 u9) 49 d9) a9 b9 ft gp9 st tn kd mn cx cy S1 wd (by first | with_reducible assumption | assumption) (by first | with_reducible assumption | omega) (by first | with_reducible assumption | assumption) (by first | with_reducible assumption | assumption) (by first | with_reducible assumption | assumption) (by first | with_reducible assumption | assumption) (by first | with_reducible assumption | omega) (by first | with_reducible assumption | omega)) (csV_230 hts rfl rfl ⟨Nat.le_of_ble_eq_true rfl, Nat.le_of_ble_eq_true rfl⟩) (zPV2 (q0 := 0) (ci := 9) hPc hDc hK hXN rfl rfl) rfl rfl hl.1 rfl (lv_room (Nat.le_of_ble_eq_true rfl)) dX11_clash_62 ⟨Nat.le_of_ble_eq_true rfl, Nat.le_of_ble_eq_true rfl⟩) hS hFc hFc rfl (fun t H locs ht hB hk1 hS => ?_)
                        obtain ⟨q_12, q_13, q_14, hP1, hD1⟩ := hB
                        rw [ht] at hP1
                        obtain ⟨hP, hD⟩ := zn (W2 := [(om k0 a I0 (vp_updL (vp_updL J0 48 q_12) 49 q_13)), _, _, _, _, _, _, (oa (a 32) cI 8 q_14), _]) hP hD hk1 hFc hP1 hD1 zl_269 [] zl_270 zl_269 (by decide +kernel) rfl rfl rfl rfl rfl
                        clear hk1 hPc hDc hFc hP1 hD1 ht
                        refine lv_if_ne (tgt := 71) hx hb dX11_clash_65 rfl (fun c_15 => ?_) (fun c_15 => ?_)
                        · have c_15 : clP ft st tn kd mn cx cy wd gp9 a9 b9 := zp_1 c_15
                          refine lv_iload hx hb dX11_clash_71 (lv_at hl 2 rfl) ?_
                          refine lv_iload_n hx hb dX11_clash_73 rfl (lv_at hl 5 rfl) ?_
                          have b9_17 : zlt ((clT (clP ft st tn kd mn cx cy wd gp9) ft a9 + cntP (fun b => a9 < b ∧ clP ft st tn kd mn cx cy wd gp9 a9 b) b9)) := show (clT (clP ft st tn kd mn cx cy wd gp9) ft a9 + cntP (fun b => a9 < b ∧ clP ft st tn kd mn cx cy wd gp9 a9 b) b9) < 2147483648 by omega
                          refine lv_icmp_ne (tgt := 89) hx hb dX11_clash_74 rfl (fun c_16 => ?_) (fun c_16 => ?_)
                          · have c_16 : ¬ ((clT (clP ft st tn kd mn cx cy wd gp9) ft a9 + cntP (fun b => a9 < b ∧ clP ft st tn kd mn cx cy wd gp9 a9 b) b9 : Nat) : Int) = ((i : Nat) : Int) := zc_ne (nI_toInt b9_17) (nI_toInt b9_4) c_16
                            refine lv_iinc (v := nI ((clT (clP ft st tn kd mn cx cy wd gp9) ft a9 + cntP (fun b => a9 < b ∧ clP ft st tn kd mn cx cy wd gp9 a9 b) b9) + 1)) (lv' := [(4, .int (nI ((clT (clP ft st tn kd mn cx cy wd gp9) ft a9 + cntP (fun b => a9 < b ∧ clP ft st tn kd mn cx cy wd gp9 a9 b) b9) + 1))), (6, .int (nI b9)), (5, .int (nI a9)), (0, .ref k0), (1, .int gp9), (2, .int (nI i)), (3, .int 1)]) hx hb dX11_clash_89 hl (k := 2) rfl (nI_add (clT (clP ft st tn kd mn cx cy wd gp9) ft a9 + cntP (fun b => a9 < b ∧ clP ft st tn kd mn cx cy wd gp9 a9 b) b9) 1) (Nat.le_of_ble_eq_true rfl) rfl (fun ls hl => ?_)
                            refine lv_iinc (v := nI (b9 + 1)) (lv' := [(6, .int (nI (b9 + 1))), (4, .int (nI ((clT (clP ft st tn kd mn cx cy wd gp9) ft a9 + cntP (fun b => a9 < b ∧ clP ft st tn kd mn cx cy wd gp9 a9 b) b9) + 1))), (5, .int (nI a9)), (0, .ref k0), (1, .int gp9), (2, .int (nI i)), (3, .int 1)]) hx hb dX11_clash_92 hl (k := 1) rfl (nI_add b9 1) (Nat.le_of_ble_eq_true rfl) rfl (fun ls hl => ?_)
                            refine lv_goto (tgt := 47) hx hb dX11_clash_95 rfl ?_
                            have hl9 := lv_sub hl [0, 2, 1, 3, 4, 5, 6] rfl
                            have e9_4 : nI (clT (clP ft st tn kd mn cx cy wd gp9) ft a9 + cntP (fun b => a9 < b ∧ clP ft st tn kd mn cx cy wd gp9 a9 b) (b9 + 1)) = (nI ((clT (clP ft st tn kd mn cx cy wd gp9) ft a9 + cntP (fun b => a9 < b ∧ clP ft st tn kd mn cx cy wd gp9 a9 b) b9) + 1) : Int32) := by first | exact zn_eq (by rw [cntP_y (P := fun b => a9 < b ∧ clP ft st tn kd mn cx cy wd gp9 a9 b) ⟨by omega, by assumption⟩]; first | done | omega) | exact zn_eq (by rw [cntP_n (P := fun b => a9 < b ∧ clP ft st tn kd mn cx cy wd gp9 a9 b) (fun h => absurd h.2 (by first | with_reducible assumption | assumption))]; first | done | omega)
                            have hl9 : lv_has ls 7 [(6, .int (nI (b9 + 1))), (5, .int (nI a9)), (4, .int (nI (clT (clP ft st tn kd mn cx cy wd gp9) ft a9 + cntP (fun b => a9 < b ∧ clP ft st tn kd mn cx cy wd gp9 a9 b) (b9 + 1)))), (0, .ref k0), (1, .int gp9), (2, .int (nI i)), (3, .int 1)] := by rw [e9_4]; exact hl9
                            exact ih_47 (b9 + 1) q_12 q_13 q_14 H locs ls (by first | with_reducible assumption | omega) (by first | with_reducible assumption | omega) (fun b8 h h2 => (by rcases Nat.lt_or_ge b8 b9 with q | q; exact hnb b8 q h2; rw [show b8 = b9 by omega] at h2; first | exact absurd h2.2.2.1 (by first | with_reducible assumption | assumption) | (have h7 := h2.2.2.2; omega))) hP hD hS hl9
                          · have c_16 : ((clT (clP ft st tn kd mn cx cy wd gp9) ft a9 + cntP (fun b => a9 < b ∧ clP ft st tn kd mn cx cy wd gp9 a9 b) b9 : Nat) : Int) = ((i : Nat) : Int) := zc_eq (nI_toInt b9_17) (nI_toInt b9_4) c_16
                            have hci : clI (clP ft st tn kd mn cx cy wd gp9) ft a9 b9 i := ⟨by omega, by omega, by assumption, by omega⟩
                            refine lv_iload_n hx hb dX11_clash_77 rfl (lv_at hl 6 rfl) ?_
                            refine lv_if_ne (tgt := 86) hx hb dX11_clash_78 rfl (fun c_18 => ?_) (fun c_18 => ?_)
                            · refine lv_iload hx hb dX11_clash_86 (lv_at hl 0 rfl) ?_
                              obtain ⟨hP9, hD9⟩ := zu_sub (wc := [_, _, _, _, _, _, _, _, _]) hP hD [true, true, true, true, true, true, true, true, true] rfl rfl
                              rw [hQ9]
                              exact W.iret (v := nI b9) hx hb hr (fun t ht hW => ⟨⟨congrArg (fun z => Outcome.returned (some (Value.int z))) (show (nI b9 : Int32) = nI b7 from zn_eq (clI_u hci hit).2), q_12, q_13, q_14, by rw [ht]; exact hP9, hD9⟩, hS.F ht⟩) hS.2.2 dX11_clash_88
                            · exact absurd c_18 (by decide)
                        · have c_15 : ¬ (clP ft st tn kd mn cx cy wd gp9 a9 b9) := zp_0 c_15
                          refine lv_goto (tgt := 92) hx hb dX11_clash_68 rfl ?_
                          refine lv_iinc (v := nI (b9 + 1)) (lv' := [(6, .int (nI (b9 + 1))), (5, .int (nI a9)), (4, .int (nI (clT (clP ft st tn kd mn cx cy wd gp9) ft a9 + cntP (fun b => a9 < b ∧ clP ft st tn kd mn cx cy wd gp9 a9 b) b9))), (0, .ref k0), (1, .int gp9), (2, .int (nI i)), (3, .int 1)]) hx hb dX11_clash_92 hl (k := 0) rfl (nI_add b9 1) (Nat.le_of_ble_eq_true rfl) rfl (fun ls hl => ?_)
                          refine lv_goto (tgt := 47) hx hb dX11_clash_95 rfl ?_
                          have hl9 := lv_sub hl [0, 1, 2, 3, 4, 5, 6] rfl
                          have e9_4 : nI (clT (clP ft st tn kd mn cx cy wd gp9) ft a9 + cntP (fun b => a9 < b ∧ clP ft st tn kd mn cx cy wd gp9 a9 b) (b9 + 1)) = (nI (clT (clP ft st tn kd mn cx cy wd gp9) ft a9 + cntP (fun b => a9 < b ∧ clP ft st tn kd mn cx cy wd gp9 a9 b) b9) : Int32) := by first | exact zn_eq (by rw [cntP_y (P := fun b => a9 < b ∧ clP ft st tn kd mn cx cy wd gp9 a9 b) ⟨by omega, by assumption⟩]; first | done | omega) | exact zn_eq (by rw [cntP_n (P := fun b => a9 < b ∧ clP ft st tn kd mn cx cy wd gp9 a9 b) (fun h => absurd h.2 (by first | with_reducible assumption | assumption))]; first | done | omega)
                          have hl9 : lv_has ls 7 [(6, .int (nI (b9 + 1))), (5, .int (nI a9)), (4, .int (nI (clT (clP ft st tn kd mn cx cy wd gp9) ft a9 + cntP (fun b => a9 < b ∧ clP ft st tn kd mn cx cy wd gp9 a9 b) (b9 + 1)))), (0, .ref k0), (1, .int gp9), (2, .int (nI i)), (3, .int 1)] := by rw [e9_4]; exact hl9
                          exact ih_47 (b9 + 1) q_12 q_13 q_14 H locs ls (by first | with_reducible assumption | omega) (by first | with_reducible assumption | omega) (fun b8 h h2 => (by rcases Nat.lt_or_ge b8 b9 with q | q; exact hnb b8 q h2; rw [show b8 = b9 by omega] at h2; first | exact absurd h2.2.2.1 (by first | with_reducible assumption | assumption) | (have h7 := h2.2.2.2; omega))) hP hD hS hl9
                  have e9_4 : nI (clT (clP ft st tn kd mn cx cy wd gp9) ft a9 + cntP (fun b => a9 < b ∧ clP ft st tn kd mn cx cy wd gp9 a9 b) (a9 + 1)) = (nI (clT (clP ft st tn kd mn cx cy wd gp9) ft a9) : Int32) := by exact zn_eq (by rw [cl_0 (clP ft st tn kd mn cx cy wd gp9) a9 (a9 + 1) (Nat.le_refl _)]; rfl)
                  have hl9 : lv_has ls 7 [(6, .int (nI (a9 + 1))), (5, .int (nI a9)), (4, .int (nI (clT (clP ft st tn kd mn cx cy wd gp9) ft a9 + cntP (fun b => a9 < b ∧ clP ft st tn kd mn cx cy wd gp9 a9 b) (a9 + 1)))), (0, .ref k0), (1, .int gp9), (2, .int (nI i)), (3, .int 1)] := by rw [e9_4]; exact lv_sub hl [0, 1, 2, 3, 4, 5, 6] rfl
                  exact hl_47 _ (a9 + 1) u9 d9 S1 H locs ls (Nat.lt_succ_self _) (by first | with_reducible assumption | omega) (fun b8 h h2 => (by have := h2.1; omega)) hP hD hS hl9
            have e9_4 : nI (clT (clP ft st tn kd mn cx cy wd gp9) ft 0) = (0 : Int32) := by rfl
            have hl9 : lv_has ls 7 [(5, .int (nI 0)), (4, .int (nI (clT (clP ft st tn kd mn cx cy wd gp9) ft 0))), (0, .ref k0), (1, .int gp9), (2, .int (nI i)), (3, .int 1)] := by rw [e9_4]; exact lv_sub hl [0, 1, 2, 3, 4, 5] rfl
            exact hl_32 _ 0 (J0 48) (J0 49) S0 s.heap [] ls (Nat.lt_succ_self _) (by first | with_reducible assumption | omega) (fun a8 b8 h => absurd h (Nat.not_lt_zero _)) hP hD hS hl9
          · exact absurd (by decide) c_6
set_option maxHeartbeats 4000000 in
set_option maxRecDepth 100000 in
theorem k_M_clash_n (l : Launch) (dC : Nat → ClassId) (dI : Nat → Nat → Nat) (cI cZ cF : ClassId) (sz : Nat) (k0 : Nat) (a : Nat → Nat) (I0 : Nat → Int32) (J0 : Nat → Int64) (ft : Nat) (i : Nat) (gp9 : Int32) (w : Int32) (st : Nat → Int32) (tn : Nat → Int32) (kd : Nat → Int32) (mn : Nat → Int32) (cx : Nat → Int32) (cy : Nat → Int32) (S0 : Nat → Int32) (wd : Nat → Int32) (hft : I0 0 = nI ft) (h200 : ft ≤ 200) (hwf : ∀ q, lvF ft st tn q → wfM mn cx cy q) (hef : ∀ q, lvF ft st tn q → 1 ≤ eO (kd q).toInt (nN (mn q))) (hwd : ∀ q, q < ft → 0 ≤ (wd q).toInt ∧ (wd q).toInt ≤ 100) (hgp : 0 ≤ gp9.toInt ∧ gp9.toInt ≤ 200) (hi31 : i < 2147483648) (hw9 : 0 ≤ w.toInt ∧ w.toInt ≤ 1) (hit : ∀ a7 b7, ¬ clI (clP ft st tn kd mn cx cy wd gp9) ft a7 b7 i) : zM l yX11_clash cX11_clash 7 (some .int) ({ frames := 6, cells := 0, slots := 0, locals := 154 } : Room) [.ref k0, .int gp9, .int (nI i), .int w] (dC, dI) (zTy cI cZ cF) [(om k0 a I0 J0), (oa (a 5) cI 201 st), (oa (a 6) cZ 201 tn), (oa (a 1) cI 201 kd), (oa (a 11) cI 201 mn), (oa (a 12) cI 8040 cx), (oa (a 13) cI 8040 cy), (oa (a 32) cI 8 S0), (oa (a 3) cI 201 wd)] sz (some (.int (-1))) (fun A t => ∃ (u9 : Int64), ∃ (d9 : Int64), ∃ (S1 : Nat → Int32), zPD (dC, dI) classes A [(om k0 a I0 (vp_updL (vp_updL J0 48 u9) 49 d9)), (oa (a 5) cI 201 st), (oa (a 6) cZ 201 tn), (oa (a 1) cI 201 kd), (oa (a 11) cI 201 mn), (oa (a 12) cI 8040 cx), (oa (a 13) cI 8040 cy), (oa (a 32) cI 8 S1), (oa (a 3) cI 201 wd)] t.heap) 0 0 := by
  refine zIn (own := "ScaleShopModel") (loc := [(0, .ref k0), (1, .int gp9), (2, .int (nI i)), (3, .int w)]) rfl rfl rfl rfl (fun p e s m below meth c hx hb hr hts hown hlocks hml hnm9 A hA hS hP hD hK hXN Q9 hQ9 ls hl => ?_)
  refine lv_iload_n hx hb dX11_clash_0 rfl (lv_at hl 1 rfl) ?_
  refine lv_if_lt (tgt := 24) hx hb dX11_clash_1 rfl (fun c_1 => ?_) (fun c_1 => ?_)
  · have c_1 : gp9.toInt < 0 := zc_lt rfl rfl c_1
    exfalso; omega
  · have c_1 : 0 ≤ gp9.toInt := zc_nlt rfl rfl c_1
    refine lv_iload_n hx hb dX11_clash_4 rfl (lv_at hl 1 rfl) ?_
    refine lv_sipush (v := 200) hx hb dX11_clash_5 rfl ?_
    refine lv_icmp_gt (tgt := 24) hx hb dX11_clash_8 rfl (fun c_2 => ?_) (fun c_2 => ?_)
    · have c_2 : 200 < gp9.toInt := zc_lt rfl rfl c_2
      exfalso; omega
    · have c_2 : gp9.toInt ≤ 200 := zc_nlt rfl rfl c_2
      refine lv_iload_n hx hb dX11_clash_11 rfl (lv_at hl 2 rfl) ?_
      have b9_4 : zlt (i) := show i < 2147483648 by omega
      refine lv_if_lt (tgt := 24) hx hb dX11_clash_12 rfl (fun c_3 => ?_) (fun c_3 => ?_)
      · have c_3 : ((i : Nat) : Int) < 0 := zc_lt (nI_toInt b9_4) rfl c_3
        exfalso; omega
      · have c_3 : 0 ≤ ((i : Nat) : Int) := zc_nlt (nI_toInt b9_4) rfl c_3
        refine lv_iload_n hx hb dX11_clash_15 rfl (lv_at hl 3 rfl) ?_
        refine lv_if_lt (tgt := 24) hx hb dX11_clash_16 rfl (fun c_5 => ?_) (fun c_5 => ?_)
        · have c_5 : w.toInt < 0 := zc_lt rfl rfl c_5
          exfalso; omega
        · have c_5 : 0 ≤ w.toInt := zc_nlt rfl rfl c_5
          refine lv_iload_n hx hb dX11_clash_19 rfl (lv_at hl 3 rfl) ?_
          refine lv_iconst (v := 1) hx hb dX11_clash_20 rfl ?_
          refine lv_icmp_le (tgt := 26) hx hb dX11_clash_21 rfl (fun c_6 => ?_) (fun c_6 => ?_)
          · have c_6 : w.toInt ≤ 1 := zc_le rfl rfl c_6
            refine lv_iconst (v := 0) hx hb dX11_clash_26 rfl ?_
            refine lv_istore (lv' := [(4, .int 0), (0, .ref k0), (1, .int gp9), (2, .int (nI i)), (3, .int w)]) hx hb dX11_clash_27 hl (Nat.le_of_ble_eq_true rfl) rfl (fun ls hl => ?_)
            refine lv_iconst (v := 0) hx hb dX11_clash_29 rfl ?_
            refine lv_istore (lv' := [(5, .int 0), (4, .int 0), (0, .ref k0), (1, .int gp9), (2, .int (nI i)), (3, .int w)]) hx hb dX11_clash_30 hl (Nat.le_of_ble_eq_true rfl) rfl (fun ls hl => ?_)
            have hl_32 : ∀ (n9 : Nat) (a9 : Nat) (u9 : Int64) (d9 : Int64) (S1 : Nat → Int32) (H : Heap) (locs : List Loc) (ls : Array Slot), ft - a9 < n9 → (a9 ≤ ft) → (∀ a8 b8, a8 < a9 → ¬ clI (clP ft st tn kd mn cx cy wd gp9) ft a8 b8 i) → va_P (dC, dI) classes [(om k0 a I0 (vp_updL (vp_updL J0 48 u9) 49 d9)), (oa (a 5) cI 201 st), (oa (a 6) cZ 201 tn), (oa (a 1) cI 201 kd), (oa (a 11) cI 201 mn), (oa (a 12) cI 8040 cx), (oa (a 13) cI 8040 cy), (oa (a 32) cI 8 S1), (oa (a 3) cI 201 wd)] H → va_D A [(om k0 a I0 (vp_updL (vp_updL J0 48 u9) 49 d9)), (oa (a 5) cI 201 st), (oa (a 6) cZ 201 tn), (oa (a 1) cI 201 kd), (oa (a 11) cI 201 mn), (oa (a 12) cI 8040 cx), (oa (a 13) cI 8040 cy), (oa (a 32) cI 8 S1), (oa (a 3) cI 201 wd)] → va_S A s.heap H locs → lv_has ls 7 [(5, .int (nI a9)), (4, .int (nI (clT (clP ft st tn kd mn cx cy wd gp9) ft a9))), (0, .ref k0), (1, .int gp9), (2, .int (nI i)), (3, .int w)] → W p l e ({ frames := 6, cells := 0, slots := 0, locals := 154 } : Room) s m ([.ref k0, .int gp9, .int (nI i), .int w] : List Value).toArray below meth c H locs 0 0 Q9 (F0 m 32 ls []) := by
              intro n9
              induction n9 with
              | zero => intro a9 u9 d9 S1 H locs ls hm; exact absurd hm (Nat.not_lt_zero _)
              | succ n9 ih_32 =>
                intro a9 u9 d9 S1 H locs ls hm ha9 hno hP hD hS hl
                have hct := clT_200 (clP ft st tn kd mn cx cy wd gp9) h200 ha9
                refine lv_iload hx hb dX11_clash_32 (lv_at hl 0 rfl) ?_
                refine lv_aload_n hx hb dX11_clash_34 rfl (lv_at hl 2 rfl) ?_
                refine va_get (D := (dC, dI)) (ci := 9) (v := .int (I0 0)) (C := RX11) (T := TX11) (N := 55) hx hb hts inX11 hown hK hP 0 rfl rfl 0 (Nat.le_of_ble_eq_true rfl) (hts _ mw_1159) (fun _ h9 => h9) rfl dX11_clash_35 ?_
                refine zz_i (v := nI ft) (hft) ?_
                have b9_8 : zlt (a9) := show a9 < 2147483648 by omega
                have b9_9 : zlt (ft) := show ft < 2147483648 by omega
                refine lv_icmp_ge (tgt := 104) hx hb dX11_clash_38 rfl (fun c_7 => ?_) (fun c_7 => ?_)
                · have c_7 : ((ft : Nat) : Int) ≤ ((a9 : Nat) : Int) := zc_le (nI_toInt b9_9) (nI_toInt b9_8) c_7
                  refine lv_iconst (v := (-1)) hx hb dX11_clash_104 rfl ?_
                  obtain ⟨hP9, hD9⟩ := zu_sub (wc := [_, _, _, _, _, _, _, _, _]) hP hD [true, true, true, true, true, true, true, true, true] rfl rfl
                  rw [hQ9]
                  exact W.iret (v := (-1)) hx hb hr (fun t ht hW => ⟨⟨rfl, u9, d9, S1, by rw [ht]; exact hP9, hD9⟩, hS.F ht⟩) hS.2.2 dX11_clash_105
                · have c_7 : ((a9 : Nat) : Int) < ((ft : Nat) : Int) := zc_nle (nI_toInt b9_9) (nI_toInt b9_8) c_7
                  refine lv_iload hx hb dX11_clash_41 (lv_at hl 0 rfl) ?_
                  refine lv_iconst (v := 1) hx hb dX11_clash_43 rfl ?_
                  refine lv_iadd hx hb dX11_clash_44 ?_
                  refine zz_i (v := nI (a9 + 1)) (nI_add a9 1) ?_
                  refine lv_istore (lv' := [(6, .int (nI (a9 + 1))), (5, .int (nI a9)), (4, .int (nI (clT (clP ft st tn kd mn cx cy wd gp9) ft a9))), (0, .ref k0), (1, .int gp9), (2, .int (nI i)), (3, .int w)]) hx hb dX11_clash_45 hl (Nat.le_of_ble_eq_true rfl) rfl (fun ls hl => ?_)
                  have hl_47 : ∀ (n9 : Nat) (b9 : Nat) (u9 : Int64) (d9 : Int64) (S1 : Nat → Int32) (H : Heap) (locs : List Loc) (ls : Array Slot), ft - b9 < n9 → (a9 < b9 ∧ b9 ≤ ft) → (∀ b8, b8 < b9 → ¬ clI (clP ft st tn kd mn cx cy wd gp9) ft a9 b8 i) → va_P (dC, dI) classes [(om k0 a I0 (vp_updL (vp_updL J0 48 u9) 49 d9)), (oa (a 5) cI 201 st), (oa (a 6) cZ 201 tn), (oa (a 1) cI 201 kd), (oa (a 11) cI 201 mn), (oa (a 12) cI 8040 cx), (oa (a 13) cI 8040 cy), (oa (a 32) cI 8 S1), (oa (a 3) cI 201 wd)] H → va_D A [(om k0 a I0 (vp_updL (vp_updL J0 48 u9) 49 d9)), (oa (a 5) cI 201 st), (oa (a 6) cZ 201 tn), (oa (a 1) cI 201 kd), (oa (a 11) cI 201 mn), (oa (a 12) cI 8040 cx), (oa (a 13) cI 8040 cy), (oa (a 32) cI 8 S1), (oa (a 3) cI 201 wd)] → va_S A s.heap H locs → lv_has ls 7 [(6, .int (nI b9)), (5, .int (nI a9)), (4, .int (nI (clT (clP ft st tn kd mn cx cy wd gp9) ft a9 + cntP (fun b => a9 < b ∧ clP ft st tn kd mn cx cy wd gp9 a9 b) b9))), (0, .ref k0), (1, .int gp9), (2, .int (nI i)), (3, .int w)] → W p l e ({ frames := 6, cells := 0, slots := 0, locals := 154 } : Room) s m ([.ref k0, .int gp9, .int (nI i), .int w] : List Value).toArray below meth c H locs 0 0 Q9 (F0 m 47 ls []) := by
                    intro n9
                    induction n9 with
                    | zero => intro b9 u9 d9 S1 H locs ls hm; exact absurd hm (Nat.not_lt_zero _)
                    | succ n9 ih_47 =>
                      intro b9 u9 d9 S1 H locs ls hm hb9 hnb hP hD hS hl
                      have hcn := cntP_b (fun b => a9 < b ∧ clP ft st tn kd mn cx cy wd gp9 a9 b) b9
                      refine lv_iload hx hb dX11_clash_47 (lv_at hl 0 rfl) ?_
                      refine lv_aload_n hx hb dX11_clash_49 rfl (lv_at hl 3 rfl) ?_
                      refine va_get (D := (dC, dI)) (ci := 9) (v := .int (I0 0)) (C := RX11) (T := TX11) (N := 55) hx hb hts inX11 hown hK hP 0 rfl rfl 0 (Nat.le_of_ble_eq_true rfl) (hts _ mw_1159) (fun _ h9 => h9) rfl dX11_clash_50 ?_
                      refine zz_i (v := nI ft) (hft) ?_
                      have b9_11 : zlt (b9) := show b9 < 2147483648 by omega
                      refine lv_icmp_ge (tgt := 98) hx hb dX11_clash_53 rfl (fun c_10 => ?_) (fun c_10 => ?_)
                      · have c_10 : ((ft : Nat) : Int) ≤ ((b9 : Nat) : Int) := zc_le (nI_toInt b9_9) (nI_toInt b9_11) c_10
                        refine lv_iinc (v := nI (a9 + 1)) (lv' := [(5, .int (nI (a9 + 1))), (6, .int (nI b9)), (4, .int (nI (clT (clP ft st tn kd mn cx cy wd gp9) ft a9 + cntP (fun b => a9 < b ∧ clP ft st tn kd mn cx cy wd gp9 a9 b) b9))), (0, .ref k0), (1, .int gp9), (2, .int (nI i)), (3, .int w)]) hx hb dX11_clash_98 hl (k := 1) rfl (nI_add a9 1) (Nat.le_of_ble_eq_true rfl) rfl (fun ls hl => ?_)
                        refine lv_goto (tgt := 32) hx hb dX11_clash_101 rfl ?_
                        have hl9 := lv_sub hl [0, 2, 3, 4, 5, 6] rfl
                        have e9_4 : nI (clT (clP ft st tn kd mn cx cy wd gp9) ft (a9 + 1)) = (nI (clT (clP ft st tn kd mn cx cy wd gp9) ft a9 + cntP (fun b => a9 < b ∧ clP ft st tn kd mn cx cy wd gp9 a9 b) b9) : Int32) := by exact zn_eq (by rw [show b9 = ft by omega]; rfl)
                        have hl9 : lv_has ls 7 [(5, .int (nI (a9 + 1))), (4, .int (nI (clT (clP ft st tn kd mn cx cy wd gp9) ft (a9 + 1)))), (0, .ref k0), (1, .int gp9), (2, .int (nI i)), (3, .int w)] := by rw [e9_4]; exact hl9
                        exact ih_32 (a9 + 1) u9 d9 S1 H locs ls (by first | with_reducible assumption | omega) (by first | with_reducible assumption | omega) (fun a8 b8 h h2 => (by rcases Nat.lt_or_ge a8 a9 with q | q; exact hno a8 b8 q h2; rw [show a8 = a9 by omega] at h2; exact hnb b8 (by have := h2.2.1; omega) h2)) hP hD hS hl9
                      · have c_10 : ((b9 : Nat) : Int) < ((ft : Nat) : Int) := zc_nle (nI_toInt b9_9) (nI_toInt b9_11) c_10
                        refine lv_aload_n hx hb dX11_clash_56 rfl (lv_at hl 3 rfl) ?_
                        refine lv_iload hx hb dX11_clash_57 (lv_at hl 1 rfl) ?_
                        refine lv_iload hx hb dX11_clash_59 (lv_at hl 0 rfl) ?_
                        refine lv_iload_n hx hb dX11_clash_61 rfl (lv_at hl 4 rfl) ?_
                        obtain ⟨hPc, hDc, hFc⟩ := zo_sub (wc := [_, _, _, _, _, _, _, _, _]) hP hD hS hA [0, 1, 2, 3, 4, 5, 6, 7, 8] (by decide +kernel) rfl
                        refine zcall (st1 := [.int (pI (clP ft st tn kd mn cx cy wd gp9 a9 b9))]) (va_runV (As := [.int (nI a9), .int (nI b9), .int gp9]) (rest := []) ⟨hx, hb, hml, hown, hts⟩ (k_M_isClash l dC dI cI cZ cF H.size k0 a I0 (vp_updL (vp_updL J0 48 u9) 49 d9) a9 b9 ft gp9 st tn kd mn cx cy S1 wd (by first | with_reducible assumption | assumption) (by first | with_reducible assumption | omega) (by first | with_reducible assumption | assumption) (by first | with_reducible assumption | assumption) (by first | with_reducible assumption | assumption) (by first | with_reducible assumption | assumption) (by first | with_reducible assumption | omega) (by first | with_reducible assumption | omega)) (csV_230 hts rfl rfl ⟨Nat.le_of_ble_eq_true rfl, Nat.le_of_ble_eq_true rfl⟩) (zPV2 (q0 := 0) (ci := 9) hPc hDc hK hXN rfl rfl) rfl rfl hl.1 rfl (lv_room (Nat.le_of_ble_eq_true rfl)) dX11_clash_62 ⟨Nat.le_of_ble_eq_true rfl, Nat.le_of_ble_eq_true rfl⟩) hS hFc hFc rfl (fun t H locs ht hB hk1 hS => ?_)
                        obtain ⟨q_12, q_13, q_14, hP1, hD1⟩ := hB
                        rw [ht] at hP1
                        obtain ⟨hP, hD⟩ := zn (W2 := [(om k0 a I0 (vp_updL (vp_updL J0 48 q_12) 49 q_13)), _, _, _, _, _, _, (oa (a 32) cI 8 q_14), _]) hP hD hk1 hFc hP1 hD1 zl_269 [] zl_270 zl_269 (by decide +kernel) rfl rfl rfl rfl rfl
                        clear hk1 hPc hDc hFc hP1 hD1 ht
                        refine lv_if_ne (tgt := 71) hx hb dX11_clash_65 rfl (fun c_15 => ?_) (fun c_15 => ?_)
                        · have c_15 : clP ft st tn kd mn cx cy wd gp9 a9 b9 := zp_1 c_15
                          refine lv_iload hx hb dX11_clash_71 (lv_at hl 2 rfl) ?_
                          refine lv_iload_n hx hb dX11_clash_73 rfl (lv_at hl 5 rfl) ?_
                          have b9_17 : zlt ((clT (clP ft st tn kd mn cx cy wd gp9) ft a9 + cntP (fun b => a9 < b ∧ clP ft st tn kd mn cx cy wd gp9 a9 b) b9)) := show (clT (clP ft st tn kd mn cx cy wd gp9) ft a9 + cntP (fun b => a9 < b ∧ clP ft st tn kd mn cx cy wd gp9 a9 b) b9) < 2147483648 by omega
                          refine lv_icmp_ne (tgt := 89) hx hb dX11_clash_74 rfl (fun c_16 => ?_) (fun c_16 => ?_)
                          · have c_16 : ¬ ((clT (clP ft st tn kd mn cx cy wd gp9) ft a9 + cntP (fun b => a9 < b ∧ clP ft st tn kd mn cx cy wd gp9 a9 b) b9 : Nat) : Int) = ((i : Nat) : Int) := zc_ne (nI_toInt b9_17) (nI_toInt b9_4) c_16
                            refine lv_iinc (v := nI ((clT (clP ft st tn kd mn cx cy wd gp9) ft a9 + cntP (fun b => a9 < b ∧ clP ft st tn kd mn cx cy wd gp9 a9 b) b9) + 1)) (lv' := [(4, .int (nI ((clT (clP ft st tn kd mn cx cy wd gp9) ft a9 + cntP (fun b => a9 < b ∧ clP ft st tn kd mn cx cy wd gp9 a9 b) b9) + 1))), (6, .int (nI b9)), (5, .int (nI a9)), (0, .ref k0), (1, .int gp9), (2, .int (nI i)), (3, .int w)]) hx hb dX11_clash_89 hl (k := 2) rfl (nI_add (clT (clP ft st tn kd mn cx cy wd gp9) ft a9 + cntP (fun b => a9 < b ∧ clP ft st tn kd mn cx cy wd gp9 a9 b) b9) 1) (Nat.le_of_ble_eq_true rfl) rfl (fun ls hl => ?_)
                            refine lv_iinc (v := nI (b9 + 1)) (lv' := [(6, .int (nI (b9 + 1))), (4, .int (nI ((clT (clP ft st tn kd mn cx cy wd gp9) ft a9 + cntP (fun b => a9 < b ∧ clP ft st tn kd mn cx cy wd gp9 a9 b) b9) + 1))), (5, .int (nI a9)), (0, .ref k0), (1, .int gp9), (2, .int (nI i)), (3, .int w)]) hx hb dX11_clash_92 hl (k := 1) rfl (nI_add b9 1) (Nat.le_of_ble_eq_true rfl) rfl (fun ls hl => ?_)
                            refine lv_goto (tgt := 47) hx hb dX11_clash_95 rfl ?_
                            have hl9 := lv_sub hl [0, 2, 1, 3, 4, 5, 6] rfl
                            have e9_4 : nI (clT (clP ft st tn kd mn cx cy wd gp9) ft a9 + cntP (fun b => a9 < b ∧ clP ft st tn kd mn cx cy wd gp9 a9 b) (b9 + 1)) = (nI ((clT (clP ft st tn kd mn cx cy wd gp9) ft a9 + cntP (fun b => a9 < b ∧ clP ft st tn kd mn cx cy wd gp9 a9 b) b9) + 1) : Int32) := by first | exact zn_eq (by rw [cntP_y (P := fun b => a9 < b ∧ clP ft st tn kd mn cx cy wd gp9 a9 b) ⟨by omega, by assumption⟩]; first | done | omega) | exact zn_eq (by rw [cntP_n (P := fun b => a9 < b ∧ clP ft st tn kd mn cx cy wd gp9 a9 b) (fun h => absurd h.2 (by first | with_reducible assumption | assumption))]; first | done | omega)
                            have hl9 : lv_has ls 7 [(6, .int (nI (b9 + 1))), (5, .int (nI a9)), (4, .int (nI (clT (clP ft st tn kd mn cx cy wd gp9) ft a9 + cntP (fun b => a9 < b ∧ clP ft st tn kd mn cx cy wd gp9 a9 b) (b9 + 1)))), (0, .ref k0), (1, .int gp9), (2, .int (nI i)), (3, .int w)] := by rw [e9_4]; exact hl9
                            exact ih_47 (b9 + 1) q_12 q_13 q_14 H locs ls (by first | with_reducible assumption | omega) (by first | with_reducible assumption | omega) (fun b8 h h2 => (by rcases Nat.lt_or_ge b8 b9 with q | q; exact hnb b8 q h2; rw [show b8 = b9 by omega] at h2; first | exact absurd h2.2.2.1 (by first | with_reducible assumption | assumption) | (have h7 := h2.2.2.2; omega))) hP hD hS hl9
                          · have c_16 : ((clT (clP ft st tn kd mn cx cy wd gp9) ft a9 + cntP (fun b => a9 < b ∧ clP ft st tn kd mn cx cy wd gp9 a9 b) b9 : Nat) : Int) = ((i : Nat) : Int) := zc_eq (nI_toInt b9_17) (nI_toInt b9_4) c_16
                            exfalso; exact hit a9 b9 ⟨by omega, by omega, by assumption, by omega⟩
                        · have c_15 : ¬ (clP ft st tn kd mn cx cy wd gp9 a9 b9) := zp_0 c_15
                          refine lv_goto (tgt := 92) hx hb dX11_clash_68 rfl ?_
                          refine lv_iinc (v := nI (b9 + 1)) (lv' := [(6, .int (nI (b9 + 1))), (5, .int (nI a9)), (4, .int (nI (clT (clP ft st tn kd mn cx cy wd gp9) ft a9 + cntP (fun b => a9 < b ∧ clP ft st tn kd mn cx cy wd gp9 a9 b) b9))), (0, .ref k0), (1, .int gp9), (2, .int (nI i)), (3, .int w)]) hx hb dX11_clash_92 hl (k := 0) rfl (nI_add b9 1) (Nat.le_of_ble_eq_true rfl) rfl (fun ls hl => ?_)
                          refine lv_goto (tgt := 47) hx hb dX11_clash_95 rfl ?_
                          have hl9 := lv_sub hl [0, 1, 2, 3, 4, 5, 6] rfl
                          have e9_4 : nI (clT (clP ft st tn kd mn cx cy wd gp9) ft a9 + cntP (fun b => a9 < b ∧ clP ft st tn kd mn cx cy wd gp9 a9 b) (b9 + 1)) = (nI (clT (clP ft st tn kd mn cx cy wd gp9) ft a9 + cntP (fun b => a9 < b ∧ clP ft st tn kd mn cx cy wd gp9 a9 b) b9) : Int32) := by first | exact zn_eq (by rw [cntP_y (P := fun b => a9 < b ∧ clP ft st tn kd mn cx cy wd gp9 a9 b) ⟨by omega, by assumption⟩]; first | done | omega) | exact zn_eq (by rw [cntP_n (P := fun b => a9 < b ∧ clP ft st tn kd mn cx cy wd gp9 a9 b) (fun h => absurd h.2 (by first | with_reducible assumption | assumption))]; first | done | omega)
                          have hl9 : lv_has ls 7 [(6, .int (nI (b9 + 1))), (5, .int (nI a9)), (4, .int (nI (clT (clP ft st tn kd mn cx cy wd gp9) ft a9 + cntP (fun b => a9 < b ∧ clP ft st tn kd mn cx cy wd gp9 a9 b) (b9 + 1)))), (0, .ref k0), (1, .int gp9), (2, .int (nI i)), (3, .int w)] := by rw [e9_4]; exact hl9
                          exact ih_47 (b9 + 1) q_12 q_13 q_14 H locs ls (by first | with_reducible assumption | omega) (by first | with_reducible assumption | omega) (fun b8 h h2 => (by rcases Nat.lt_or_ge b8 b9 with q | q; exact hnb b8 q h2; rw [show b8 = b9 by omega] at h2; first | exact absurd h2.2.2.1 (by first | with_reducible assumption | assumption) | (have h7 := h2.2.2.2; omega))) hP hD hS hl9
                  have e9_4 : nI (clT (clP ft st tn kd mn cx cy wd gp9) ft a9 + cntP (fun b => a9 < b ∧ clP ft st tn kd mn cx cy wd gp9 a9 b) (a9 + 1)) = (nI (clT (clP ft st tn kd mn cx cy wd gp9) ft a9) : Int32) := by exact zn_eq (by rw [cl_0 (clP ft st tn kd mn cx cy wd gp9) a9 (a9 + 1) (Nat.le_refl _)]; rfl)
                  have hl9 : lv_has ls 7 [(6, .int (nI (a9 + 1))), (5, .int (nI a9)), (4, .int (nI (clT (clP ft st tn kd mn cx cy wd gp9) ft a9 + cntP (fun b => a9 < b ∧ clP ft st tn kd mn cx cy wd gp9 a9 b) (a9 + 1)))), (0, .ref k0), (1, .int gp9), (2, .int (nI i)), (3, .int w)] := by rw [e9_4]; exact lv_sub hl [0, 1, 2, 3, 4, 5, 6] rfl
                  exact hl_47 _ (a9 + 1) u9 d9 S1 H locs ls (Nat.lt_succ_self _) (by first | with_reducible assumption | omega) (fun b8 h h2 => (by have := h2.1; omega)) hP hD hS hl9
            have e9_4 : nI (clT (clP ft st tn kd mn cx cy wd gp9) ft 0) = (0 : Int32) := by rfl
            have hl9 : lv_has ls 7 [(5, .int (nI 0)), (4, .int (nI (clT (clP ft st tn kd mn cx cy wd gp9) ft 0))), (0, .ref k0), (1, .int gp9), (2, .int (nI i)), (3, .int w)] := by rw [e9_4]; exact lv_sub hl [0, 1, 2, 3, 4, 5] rfl
            exact hl_32 _ 0 (J0 48) (J0 49) S0 s.heap [] ls (Nat.lt_succ_self _) (by first | with_reducible assumption | omega) (fun a8 b8 h => absurd h (Nat.not_lt_zero _)) hP hD hS hl9
          · have c_6 : 1 < w.toInt := zc_nle rfl rfl c_6
            exfalso; omega
end
section
set_option maxHeartbeats 4000000 in
set_option maxRecDepth 100000 in
theorem k_M_nearer_q (l : Launch) (dC : Nat → ClassId) (dI : Nat → Nat → Nat) (cI cZ cF : ClassId) (sz : Nat) (k0 : Nat) (a : Nat → Nat) (I0 : Nat → Int32) (J0 : Nat → Int64) (q : Nat) (px : Int32) (py : Int32) (u : Int) (d : Int) (S0 : Nat → Int32) (hq4 : q ≤ 4) (hs : ∀ k, q ≤ k → k < q + 4 → pl (S0 k)) (hpx : pl px) (hpy : pl py) (hu9 : 0 ≤ u ∧ u ≤ 4000000000000) (hd9 : 0 ≤ d ∧ d ≤ 2000000) : zM l yX11_nearer cX11_nearer 23 none ({ frames := 1, cells := 0, slots := 0, locals := 28 } : Room) [.ref k0, .ref (a 32), .int px, .int py, .int (nI q)] (dC, dI) (zTy cI cZ cF) [(om k0 a I0 (vp_updL (vp_updL J0 48 (jI u)) 49 (jI d))), (oa (a 32) cI 8 S0)] sz none (fun A t => ∃ (zu : Int), ∃ (zd : Int), (ndP u d (nrU (S0 q).toInt (S0 (q + 1)).toInt (S0 (q + 2)).toInt (S0 (q + 3)).toInt px.toInt py.toInt) (nrD (S0 q).toInt (S0 (q + 1)).toInt (S0 (q + 2)).toInt (S0 (q + 3)).toInt px.toInt py.toInt) zu zd) ∧ zPD (dC, dI) classes A [(om k0 a I0 (vp_updL (vp_updL J0 48 (jI zu)) 49 (jI zd))), (oa (a 32) cI 8 S0)] t.heap) 0 0 := by
  refine zIn (own := "ScaleShopModel") (loc := [(0, .ref k0), (1, .ref (a 32)), (2, .int px), (3, .int py), (4, .int (nI q))]) rfl rfl rfl rfl (fun p e s m below meth c hx hb hr hts hown hlocks hml hnm9 A hA hS hP hD hK hXN Q9 hQ9 ls hl => ?_)
  have hLb := nrL_b (hs q (by omega) (by omega)) (hs (q + 1) (by omega) (by omega)) (hs (q + 2) (by omega) (by omega)) (hs (q + 3) (by omega) (by omega))
  have hTb := nrT_b (hs q (by omega) (by omega)) (hs (q + 1) (by omega) (by omega)) (hs (q + 2) (by omega) (by omega)) (hs (q + 3) (by omega) (by omega)) hpx hpy
  have hUb := nrU_b (hs q (by omega) (by omega)) (hs (q + 1) (by omega) (by omega)) (hs (q + 2) (by omega) (by omega)) (hs (q + 3) (by omega) (by omega)) hpx hpy
  refine lv_aload_n hx hb dX11_nearer_0 rfl (lv_at hl 1 rfl) ?_
  refine lv_iload hx hb dX11_nearer_1 (lv_at hl 4 rfl) ?_
  refine lv_iconst (v := 2) hx hb dX11_nearer_3 rfl ?_
  refine lv_iadd hx hb dX11_nearer_4 ?_
  refine zz_i (v := nI (q + 2)) (nI_add q 2) ?_
  have b9_1 : q + 2 < 8 := by omega
  refine z_iald hx hb hK hP 1 0 rfl rfl (e := q + 2) rfl b9_1 (Nat.le_of_ble_eq_true rfl) dX11_nearer_5 ?_
  refine lv_aload_n hx hb dX11_nearer_6 rfl (lv_at hl 1 rfl) ?_
  refine lv_iload hx hb dX11_nearer_7 (lv_at hl 4 rfl) ?_
  have b9_2 : q < 8 := by omega
  refine z_iald hx hb hK hP 1 0 rfl rfl (e := q) rfl b9_2 (Nat.le_of_ble_eq_true rfl) dX11_nearer_9 ?_
  refine lv_isub hx hb dX11_nearer_10 ?_
  refine lv_i2l (v := ((S0 (q + 2)) - (S0 q)).toInt64) hx hb dX11_nearer_11 (rfl) ?_
  refine lv_lstore (lv' := [(5, .long (((S0 (q + 2)) - (S0 q)).toInt64)), (0, .ref k0), (1, .ref (a 32)), (2, .int px), (3, .int py), (4, .int (nI q))]) hx hb dX11_nearer_12 hl (Nat.le_of_ble_eq_true rfl) rfl (fun ls hl => ?_)
  refine lv_aload_n hx hb dX11_nearer_14 rfl (lv_at hl 2 rfl) ?_
  refine lv_iload hx hb dX11_nearer_15 (lv_at hl 5 rfl) ?_
  refine lv_iconst (v := 3) hx hb dX11_nearer_17 rfl ?_
  refine lv_iadd hx hb dX11_nearer_18 ?_
  refine zz_i (v := nI (q + 3)) (nI_add q 3) ?_
  have b9_3 : q + 3 < 8 := by omega
  refine z_iald hx hb hK hP 1 0 rfl rfl (e := q + 3) rfl b9_3 (Nat.le_of_ble_eq_true rfl) dX11_nearer_19 ?_
  refine lv_aload_n hx hb dX11_nearer_20 rfl (lv_at hl 2 rfl) ?_
  refine lv_iload hx hb dX11_nearer_21 (lv_at hl 5 rfl) ?_
  refine lv_iconst (v := 1) hx hb dX11_nearer_23 rfl ?_
  refine lv_iadd hx hb dX11_nearer_24 ?_
  refine zz_i (v := nI (q + 1)) (nI_add q 1) ?_
  have b9_4 : q + 1 < 8 := by omega
  refine z_iald hx hb hK hP 1 0 rfl rfl (e := q + 1) rfl b9_4 (Nat.le_of_ble_eq_true rfl) dX11_nearer_25 ?_
  refine lv_isub hx hb dX11_nearer_26 ?_
  refine lv_i2l (v := ((S0 (q + 3)) - (S0 (q + 1))).toInt64) hx hb dX11_nearer_27 (rfl) ?_
  refine lv_lstore (lv' := [(7, .long (((S0 (q + 3)) - (S0 (q + 1))).toInt64)), (5, .long (((S0 (q + 2)) - (S0 q)).toInt64)), (0, .ref k0), (1, .ref (a 32)), (2, .int px), (3, .int py), (4, .int (nI q))]) hx hb dX11_nearer_28 hl (Nat.le_of_ble_eq_true rfl) rfl (fun ls hl => ?_)
  refine lv_iload_n hx hb dX11_nearer_30 rfl (lv_at hl 4 rfl) ?_
  refine lv_aload_n hx hb dX11_nearer_31 rfl (lv_at hl 3 rfl) ?_
  refine lv_iload hx hb dX11_nearer_32 (lv_at hl 6 rfl) ?_
  refine z_iald hx hb hK hP 1 0 rfl rfl (e := q) rfl b9_2 (Nat.le_of_ble_eq_true rfl) dX11_nearer_34 ?_
  refine lv_isub hx hb dX11_nearer_35 ?_
  refine lv_i2l (v := (px - (S0 q)).toInt64) hx hb dX11_nearer_36 (rfl) ?_
  refine lv_lstore (lv' := [(9, .long ((px - (S0 q)).toInt64)), (7, .long (((S0 (q + 3)) - (S0 (q + 1))).toInt64)), (5, .long (((S0 (q + 2)) - (S0 q)).toInt64)), (0, .ref k0), (1, .ref (a 32)), (2, .int px), (3, .int py), (4, .int (nI q))]) hx hb dX11_nearer_37 hl (Nat.le_of_ble_eq_true rfl) rfl (fun ls hl => ?_)
  refine lv_iload_n hx hb dX11_nearer_39 rfl (lv_at hl 6 rfl) ?_
  refine lv_aload_n hx hb dX11_nearer_40 rfl (lv_at hl 4 rfl) ?_
  refine lv_iload hx hb dX11_nearer_41 (lv_at hl 7 rfl) ?_
  refine lv_iconst (v := 1) hx hb dX11_nearer_43 rfl ?_
  refine lv_iadd hx hb dX11_nearer_44 ?_
  refine zz_i (v := nI (q + 1)) (nI_add q 1) ?_
  refine z_iald hx hb hK hP 1 0 rfl rfl (e := q + 1) rfl b9_4 (Nat.le_of_ble_eq_true rfl) dX11_nearer_45 ?_
  refine lv_isub hx hb dX11_nearer_46 ?_
  refine lv_i2l (v := (py - (S0 (q + 1))).toInt64) hx hb dX11_nearer_47 (rfl) ?_
  refine lv_lstore (lv' := [(11, .long ((py - (S0 (q + 1))).toInt64)), (9, .long ((px - (S0 q)).toInt64)), (7, .long (((S0 (q + 3)) - (S0 (q + 1))).toInt64)), (5, .long (((S0 (q + 2)) - (S0 q)).toInt64)), (0, .ref k0), (1, .ref (a 32)), (2, .int px), (3, .int py), (4, .int (nI q))]) hx hb dX11_nearer_48 hl (Nat.le_of_ble_eq_true rfl) rfl (fun ls hl => ?_)
  refine lv_lload hx hb dX11_nearer_50 (lv_at hl 3 rfl) ?_
  refine lv_lload hx hb dX11_nearer_52 (lv_at hl 3 rfl) ?_
  refine lv_lmul hx hb dX11_nearer_54 ?_
  refine lv_lload hx hb dX11_nearer_55 (lv_at hl 2 rfl) ?_
  refine lv_lload hx hb dX11_nearer_57 (lv_at hl 2 rfl) ?_
  refine lv_lmul hx hb dX11_nearer_59 ?_
  refine lv_ladd hx hb dX11_nearer_60 ?_
  refine zz_l (v := jI (nrL (S0 q).toInt (S0 (q + 1)).toInt (S0 (q + 2)).toInt (S0 (q + 3)).toInt)) (nr_len (hs q (by omega) (by omega)) (hs (q + 1) (by omega) (by omega)) (hs (q + 2) (by omega) (by omega)) (hs (q + 3) (by omega) (by omega))) ?_
  refine lv_lstore (lv' := [(13, .long (jI (nrL (S0 q).toInt (S0 (q + 1)).toInt (S0 (q + 2)).toInt (S0 (q + 3)).toInt))), (11, .long ((py - (S0 (q + 1))).toInt64)), (9, .long ((px - (S0 q)).toInt64)), (7, .long (((S0 (q + 3)) - (S0 (q + 1))).toInt64)), (5, .long (((S0 (q + 2)) - (S0 q)).toInt64)), (0, .ref k0), (1, .ref (a 32)), (2, .int px), (3, .int py), (4, .int (nI q))]) hx hb dX11_nearer_61 hl (Nat.le_of_ble_eq_true rfl) rfl (fun ls hl => ?_)
  refine lv_lload hx hb dX11_nearer_63 (lv_at hl 4 rfl) ?_
  refine lv_lload hx hb dX11_nearer_65 (lv_at hl 2 rfl) ?_
  refine lv_lmul hx hb dX11_nearer_67 ?_
  refine lv_lload hx hb dX11_nearer_68 (lv_at hl 3 rfl) ?_
  refine lv_lload hx hb dX11_nearer_70 (lv_at hl 1 rfl) ?_
  refine lv_lmul hx hb dX11_nearer_72 ?_
  refine lv_ladd hx hb dX11_nearer_73 ?_
  refine zz_l (v := jI (nrT (S0 q).toInt (S0 (q + 1)).toInt (S0 (q + 2)).toInt (S0 (q + 3)).toInt px.toInt py.toInt)) (nr_dot (hs q (by omega) (by omega)) (hs (q + 1) (by omega) (by omega)) (hs (q + 2) (by omega) (by omega)) (hs (q + 3) (by omega) (by omega)) hpx hpy) ?_
  refine lv_lstore (lv' := [(15, .long (jI (nrT (S0 q).toInt (S0 (q + 1)).toInt (S0 (q + 2)).toInt (S0 (q + 3)).toInt px.toInt py.toInt))), (13, .long (jI (nrL (S0 q).toInt (S0 (q + 1)).toInt (S0 (q + 2)).toInt (S0 (q + 3)).toInt))), (11, .long ((py - (S0 (q + 1))).toInt64)), (9, .long ((px - (S0 q)).toInt64)), (7, .long (((S0 (q + 3)) - (S0 (q + 1))).toInt64)), (5, .long (((S0 (q + 2)) - (S0 q)).toInt64)), (0, .ref k0), (1, .ref (a 32)), (2, .int px), (3, .int py), (4, .int (nI q))]) hx hb dX11_nearer_74 hl (Nat.le_of_ble_eq_true rfl) rfl (fun ls hl => ?_)
  refine lv_lconst (v := 1) hx hb dX11_nearer_76 rfl ?_
  refine lv_lstore (lv' := [(19, .long 1), (15, .long (jI (nrT (S0 q).toInt (S0 (q + 1)).toInt (S0 (q + 2)).toInt (S0 (q + 3)).toInt px.toInt py.toInt))), (13, .long (jI (nrL (S0 q).toInt (S0 (q + 1)).toInt (S0 (q + 2)).toInt (S0 (q + 3)).toInt))), (11, .long ((py - (S0 (q + 1))).toInt64)), (9, .long ((px - (S0 q)).toInt64)), (7, .long (((S0 (q + 3)) - (S0 (q + 1))).toInt64)), (5, .long (((S0 (q + 2)) - (S0 q)).toInt64)), (0, .ref k0), (1, .ref (a 32)), (2, .int px), (3, .int py), (4, .int (nI q))]) hx hb dX11_nearer_77 hl (Nat.le_of_ble_eq_true rfl) rfl (fun ls hl => ?_)
  refine lv_lload hx hb dX11_nearer_79 (lv_at hl 2 rfl) ?_
  refine lv_lconst (v := 0) hx hb dX11_nearer_81 rfl ?_
  refine W.lcmp hx hb dX11_nearer_82 ?_
  refine lv_if_eq (tgt := 93) hx hb dX11_nearer_83 rfl (fun c_5 => ?_) (fun c_5 => ?_)
  · have c_5 : (nrL (S0 q).toInt (S0 (q + 1)).toInt (S0 (q + 2)).toInt (S0 (q + 3)).toInt) = 0 := zl_eq (jI_toInt (by omega)) rfl c_5
    have hT0 : nrT (S0 q).toInt (S0 (q + 1)).toInt (S0 (q + 2)).toInt (S0 (q + 3)).toInt px.toInt py.toInt ≤ 0 := (by first | omega | (have h9 := nrT_0 (x := px.toInt) (y := py.toInt) (show nrL (S0 q).toInt (S0 (q + 1)).toInt (S0 (q + 2)).toInt (S0 (q + 3)).toInt = 0 by assumption); omega))
    refine lv_lload hx hb dX11_nearer_93 (lv_at hl 4 rfl) ?_
    refine lv_lload hx hb dX11_nearer_95 (lv_at hl 4 rfl) ?_
    refine lv_lmul hx hb dX11_nearer_97 ?_
    refine lv_lload hx hb dX11_nearer_98 (lv_at hl 3 rfl) ?_
    refine lv_lload hx hb dX11_nearer_100 (lv_at hl 3 rfl) ?_
    refine lv_lmul hx hb dX11_nearer_102 ?_
    refine lv_ladd hx hb dX11_nearer_103 ?_
    refine zz_l (v := jI (nrU (S0 q).toInt (S0 (q + 1)).toInt (S0 (q + 2)).toInt (S0 (q + 3)).toInt px.toInt py.toInt)) (nr_u0 (hs q (by omega) (by omega)) (hs (q + 1) (by omega) (by omega)) hpx hpy hT0) ?_
    refine lv_lstore (lv' := [(17, .long (jI (nrU (S0 q).toInt (S0 (q + 1)).toInt (S0 (q + 2)).toInt (S0 (q + 3)).toInt px.toInt py.toInt))), (19, .long 1), (15, .long (jI (nrT (S0 q).toInt (S0 (q + 1)).toInt (S0 (q + 2)).toInt (S0 (q + 3)).toInt px.toInt py.toInt))), (13, .long (jI (nrL (S0 q).toInt (S0 (q + 1)).toInt (S0 (q + 2)).toInt (S0 (q + 3)).toInt))), (11, .long ((py - (S0 (q + 1))).toInt64)), (9, .long ((px - (S0 q)).toInt64)), (7, .long (((S0 (q + 3)) - (S0 (q + 1))).toInt64)), (5, .long (((S0 (q + 2)) - (S0 q)).toInt64)), (0, .ref k0), (1, .ref (a 32)), (2, .int px), (3, .int py), (4, .int (nI q))]) hx hb dX11_nearer_104 hl (Nat.le_of_ble_eq_true rfl) rfl (fun ls hl => ?_)
    refine lv_goto (tgt := 169) hx hb dX11_nearer_106 rfl ?_
    refine lv_aload_n hx hb dX11_nearer_169 rfl (lv_at hl 8 rfl) ?_
    refine va_get (D := (dC, dI)) (ci := 9) (v := .long (jI d)) (C := RX11) (T := TX11) (N := 55) hx hb hts inX11 hown hK hP 0 rfl rfl 49 (Nat.le_of_ble_eq_true rfl) (hts _ mw_1208) (fun _ h9 => h9) rfl dX11_nearer_170 ?_
    refine lv_lconst (v := 0) hx hb dX11_nearer_173 rfl ?_
    refine W.lcmp hx hb dX11_nearer_174 ?_
    refine lv_if_eq (tgt := 197) hx hb dX11_nearer_175 rfl (fun c_6 => ?_) (fun c_6 => ?_)
    · have c_6 : d = 0 := zl_eq (jI_toInt (by omega)) rfl c_6
      refine lv_aload_n hx hb dX11_nearer_197 rfl (lv_at hl 8 rfl) ?_
      refine lv_lload hx hb dX11_nearer_198 (lv_at hl 0 rfl) ?_
      refine va_put (D := (dC, dI)) (ci := 9) (v := .long (jI (nrU (S0 q).toInt (S0 (q + 1)).toInt (S0 (q + 2)).toInt (S0 (q + 3)).toInt px.toInt py.toInt))) (ty := .long) (C := RX11) (T := TX11) (N := 55) hx hb hts inX11 tyX11 tyX11_ok nmX11 hown hK hP hD hS 0 rfl rfl 48 (by decide) (hts _ mw_1207) (fun _ h9 => h9) rfl (by decide +kernel) rfl rfl (Nat.le_of_ble_eq_true rfl) dX11_nearer_200 (fun H locs hP hD hS => ?_)
      obtain ⟨hP, hD⟩ := zre (W2 := [(om k0 a I0 (vp_updL (vp_updL J0 48 (jI (nrU (S0 q).toInt (S0 (q + 1)).toInt (S0 (q + 2)).toInt (S0 (q + 3)).toInt px.toInt py.toInt))) 49 (jI d))), _]) hP hD rfl
      refine lv_aload_n hx hb dX11_nearer_203 rfl (lv_at hl 8 rfl) ?_
      refine lv_lload hx hb dX11_nearer_204 (lv_at hl 1 rfl) ?_
      refine zz_l (v := jI (nrD (S0 q).toInt (S0 (q + 1)).toInt (S0 (q + 2)).toInt (S0 (q + 3)).toInt px.toInt py.toInt)) (by first | (rw [nrD_0 hT0]; exact jI_1) | (rw [nrD_1 (by omega) (by omega)]; exact jI_1) | (rw [nrD_2 (by omega) (by omega)])) ?_
      refine va_put (D := (dC, dI)) (ci := 9) (v := .long (jI (nrD (S0 q).toInt (S0 (q + 1)).toInt (S0 (q + 2)).toInt (S0 (q + 3)).toInt px.toInt py.toInt))) (ty := .long) (C := RX11) (T := TX11) (N := 55) hx hb hts inX11 tyX11 tyX11_ok nmX11 hown hK hP hD hS 0 rfl rfl 49 (by decide) (hts _ mw_1208) (fun _ h9 => h9) rfl (by decide +kernel) rfl rfl (Nat.le_of_ble_eq_true rfl) dX11_nearer_206 (fun H locs hP hD hS => ?_)
      obtain ⟨hP, hD⟩ := zre (W2 := [(om k0 a I0 (vp_updL (vp_updL J0 48 (jI (nrU (S0 q).toInt (S0 (q + 1)).toInt (S0 (q + 2)).toInt (S0 (q + 3)).toInt px.toInt py.toInt))) 49 (jI (nrD (S0 q).toInt (S0 (q + 1)).toInt (S0 (q + 2)).toInt (S0 (q + 3)).toInt px.toInt py.toInt)))), _]) hP hD rfl
      obtain ⟨hP9, hD9⟩ := zu_sub (wc := [_, _]) hP hD [true, true] rfl rfl
      rw [hQ9]
      exact W.vret hx hb hr (fun t ht hW => ⟨⟨rfl, (nrU (S0 q).toInt (S0 (q + 1)).toInt (S0 (q + 2)).toInt (S0 (q + 3)).toInt px.toInt py.toInt), (nrD (S0 q).toInt (S0 (q + 1)).toInt (S0 (q + 2)).toInt (S0 (q + 3)).toInt px.toInt py.toInt), (by unfold ndP; first | exact Or.inl ⟨Or.inl (by omega), rfl, rfl⟩ | exact Or.inl ⟨Or.inr (by first | with_reducible assumption | assumption), rfl, rfl⟩ | exact Or.inr ⟨fun h => h.elim (by omega) (by first | with_reducible assumption | assumption), rfl, rfl⟩), by rw [ht]; exact hP9, hD9⟩, hS.F ht⟩) hS.2.2 dX11_nearer_209
    · have c_6 : ¬ d = 0 := zl_ne (jI_toInt (by omega)) rfl c_6
      refine lv_aload_n hx hb dX11_nearer_178 rfl (lv_at hl 8 rfl) ?_
      refine lv_lload hx hb dX11_nearer_179 (lv_at hl 0 rfl) ?_
      refine lv_lload hx hb dX11_nearer_181 (lv_at hl 1 rfl) ?_
      refine zz_l (v := jI (nrD (S0 q).toInt (S0 (q + 1)).toInt (S0 (q + 2)).toInt (S0 (q + 3)).toInt px.toInt py.toInt)) (by first | (rw [nrD_0 hT0]; exact jI_1) | (rw [nrD_1 (by omega) (by omega)]; exact jI_1) | (rw [nrD_2 (by omega) (by omega)])) ?_
      refine lv_aload_n hx hb dX11_nearer_183 rfl (lv_at hl 8 rfl) ?_
      refine va_get (D := (dC, dI)) (ci := 9) (v := .long (jI u)) (C := RX11) (T := TX11) (N := 55) hx hb hts inX11 hown hK hP 0 rfl rfl 48 (Nat.le_of_ble_eq_true rfl) (hts _ mw_1207) (fun _ h9 => h9) rfl dX11_nearer_184 ?_
      refine lv_aload_n hx hb dX11_nearer_187 rfl (lv_at hl 8 rfl) ?_
      refine va_get (D := (dC, dI)) (ci := 9) (v := .long (jI d)) (C := RX11) (T := TX11) (N := 55) hx hb hts inX11 hown hK hP 0 rfl rfl 49 (Nat.le_of_ble_eq_true rfl) (hts _ mw_1208) (fun _ h9 => h9) rfl dX11_nearer_188 ?_
      obtain ⟨hPc, hDc, hFc, hI1⟩ := zi_sub (wc := [_]) hP hD hS hA [0] rfl rfl
      refine zcall (st1 := [.int (pI ((nrU (S0 q).toInt (S0 (q + 1)).toInt (S0 (q + 2)).toInt (S0 (q + 3)).toInt px.toInt py.toInt) * d < u * (nrD (S0 q).toInt (S0 (q + 1)).toInt (S0 (q + 2)).toInt (S0 (q + 3)).toInt px.toInt py.toInt)))]) (va_runV (As := [.long (jI (nrU (S0 q).toInt (S0 (q + 1)).toInt (S0 (q + 2)).toInt (S0 (q + 3)).toInt px.toInt py.toInt)), .long (jI (nrD (S0 q).toInt (S0 (q + 1)).toInt (S0 (q + 2)).toInt (S0 (q + 3)).toInt px.toInt py.toInt)), .long (jI u), .long (jI d)]) (rest := []) ⟨hx, hb, hml, hown, hts⟩ (k_M_isLess l dC dI cI cZ cF s.heap.size k0 a I0 (vp_updL (vp_updL J0 48 (jI u)) 49 (jI d)) (nrU (S0 q).toInt (S0 (q + 1)).toInt (S0 (q + 2)).toInt (S0 (q + 3)).toInt px.toInt py.toInt) (nrD (S0 q).toInt (S0 (q + 1)).toInt (S0 (q + 2)).toInt (S0 (q + 3)).toInt px.toInt py.toInt) u d (prN hUb.1 hd9) (prN hu9 ⟨by omega, hUb.2.2⟩) (by first | with_reducible assumption | omega) (by first | with_reducible assumption | omega) (by first | with_reducible assumption | omega) (by first | with_reducible assumption | omega)) (csV_217 hts rfl rfl ⟨Nat.le_of_ble_eq_true rfl, Nat.le_of_ble_eq_true rfl⟩) (zPV2 (q0 := 0) (ci := 9) hPc hDc hK hXN rfl rfl) rfl rfl hl.1 rfl (lv_room (Nat.le_of_ble_eq_true rfl)) dX11_nearer_191 ⟨Nat.le_of_ble_eq_true rfl, Nat.le_of_ble_eq_true rfl⟩) hS hFc hFc rfl (fun t H locs ht hB hk1 hS => ?_)
      obtain ⟨hP1, hD1⟩ := hB
      rw [ht] at hP1
      replace hP := z0 hP hD hk1 hP1 hI1
      clear hk1 hPc hDc hFc hP1 hD1 ht hI1
      refine lv_if_eq (tgt := 209) hx hb dX11_nearer_194 rfl (fun c_7 => ?_) (fun c_7 => ?_)
      · have c_7 : ¬ ((nrU (S0 q).toInt (S0 (q + 1)).toInt (S0 (q + 2)).toInt (S0 (q + 3)).toInt px.toInt py.toInt) * d < u * (nrD (S0 q).toInt (S0 (q + 1)).toInt (S0 (q + 2)).toInt (S0 (q + 3)).toInt px.toInt py.toInt)) := zp_0 c_7
        obtain ⟨hP9, hD9⟩ := zu_sub (wc := [_, _]) hP hD [true, true] rfl rfl
        rw [hQ9]
        exact W.vret hx hb hr (fun t ht hW => ⟨⟨rfl, u, d, (by unfold ndP; first | exact Or.inl ⟨Or.inl (by omega), rfl, rfl⟩ | exact Or.inl ⟨Or.inr (by first | with_reducible assumption | assumption), rfl, rfl⟩ | exact Or.inr ⟨fun h => h.elim (by omega) (by first | with_reducible assumption | assumption), rfl, rfl⟩), by rw [ht]; exact hP9, hD9⟩, hS.F ht⟩) hS.2.2 dX11_nearer_209
      · have c_7 : (nrU (S0 q).toInt (S0 (q + 1)).toInt (S0 (q + 2)).toInt (S0 (q + 3)).toInt px.toInt py.toInt) * d < u * (nrD (S0 q).toInt (S0 (q + 1)).toInt (S0 (q + 2)).toInt (S0 (q + 3)).toInt px.toInt py.toInt) := zp_1 c_7
        refine lv_aload_n hx hb dX11_nearer_197 rfl (lv_at hl 8 rfl) ?_
        refine lv_lload hx hb dX11_nearer_198 (lv_at hl 0 rfl) ?_
        refine va_put (D := (dC, dI)) (ci := 9) (v := .long (jI (nrU (S0 q).toInt (S0 (q + 1)).toInt (S0 (q + 2)).toInt (S0 (q + 3)).toInt px.toInt py.toInt))) (ty := .long) (C := RX11) (T := TX11) (N := 55) hx hb hts inX11 tyX11 tyX11_ok nmX11 hown hK hP hD hS 0 rfl rfl 48 (by decide) (hts _ mw_1207) (fun _ h9 => h9) rfl (by decide +kernel) rfl rfl (Nat.le_of_ble_eq_true rfl) dX11_nearer_200 (fun H locs hP hD hS => ?_)
        obtain ⟨hP, hD⟩ := zre (W2 := [(om k0 a I0 (vp_updL (vp_updL J0 48 (jI (nrU (S0 q).toInt (S0 (q + 1)).toInt (S0 (q + 2)).toInt (S0 (q + 3)).toInt px.toInt py.toInt))) 49 (jI d))), _]) hP hD rfl
        refine lv_aload_n hx hb dX11_nearer_203 rfl (lv_at hl 8 rfl) ?_
        refine lv_lload hx hb dX11_nearer_204 (lv_at hl 1 rfl) ?_
        refine zz_l (v := jI (nrD (S0 q).toInt (S0 (q + 1)).toInt (S0 (q + 2)).toInt (S0 (q + 3)).toInt px.toInt py.toInt)) (by first | (rw [nrD_0 hT0]; exact jI_1) | (rw [nrD_1 (by omega) (by omega)]; exact jI_1) | (rw [nrD_2 (by omega) (by omega)])) ?_
        refine va_put (D := (dC, dI)) (ci := 9) (v := .long (jI (nrD (S0 q).toInt (S0 (q + 1)).toInt (S0 (q + 2)).toInt (S0 (q + 3)).toInt px.toInt py.toInt))) (ty := .long) (C := RX11) (T := TX11) (N := 55) hx hb hts inX11 tyX11 tyX11_ok nmX11 hown hK hP hD hS 0 rfl rfl 49 (by decide) (hts _ mw_1208) (fun _ h9 => h9) rfl (by decide +kernel) rfl rfl (Nat.le_of_ble_eq_true rfl) dX11_nearer_206 (fun H locs hP hD hS => ?_)
        obtain ⟨hP, hD⟩ := zre (W2 := [(om k0 a I0 (vp_updL (vp_updL J0 48 (jI (nrU (S0 q).toInt (S0 (q + 1)).toInt (S0 (q + 2)).toInt (S0 (q + 3)).toInt px.toInt py.toInt))) 49 (jI (nrD (S0 q).toInt (S0 (q + 1)).toInt (S0 (q + 2)).toInt (S0 (q + 3)).toInt px.toInt py.toInt)))), _]) hP hD rfl
        obtain ⟨hP9, hD9⟩ := zu_sub (wc := [_, _]) hP hD [true, true] rfl rfl
        rw [hQ9]
        exact W.vret hx hb hr (fun t ht hW => ⟨⟨rfl, (nrU (S0 q).toInt (S0 (q + 1)).toInt (S0 (q + 2)).toInt (S0 (q + 3)).toInt px.toInt py.toInt), (nrD (S0 q).toInt (S0 (q + 1)).toInt (S0 (q + 2)).toInt (S0 (q + 3)).toInt px.toInt py.toInt), (by unfold ndP; first | exact Or.inl ⟨Or.inl (by omega), rfl, rfl⟩ | exact Or.inl ⟨Or.inr (by first | with_reducible assumption | assumption), rfl, rfl⟩ | exact Or.inr ⟨fun h => h.elim (by omega) (by first | with_reducible assumption | assumption), rfl, rfl⟩), by rw [ht]; exact hP9, hD9⟩, hS.F ht⟩) hS.2.2 dX11_nearer_209
  · have c_5 : ¬ (nrL (S0 q).toInt (S0 (q + 1)).toInt (S0 (q + 2)).toInt (S0 (q + 3)).toInt) = 0 := zl_ne (jI_toInt (by omega)) rfl c_5
    refine lv_lload hx hb dX11_nearer_86 (lv_at hl 1 rfl) ?_
    refine lv_lconst (v := 0) hx hb dX11_nearer_88 rfl ?_
    refine W.lcmp hx hb dX11_nearer_89 ?_
    refine lv_if_gt (tgt := 109) hx hb dX11_nearer_90 rfl (fun c_8 => ?_) (fun c_8 => ?_)
    · have c_8 : 0 < (nrT (S0 q).toInt (S0 (q + 1)).toInt (S0 (q + 2)).toInt (S0 (q + 3)).toInt px.toInt py.toInt) := zl_gt (jI_toInt (by omega)) rfl c_8
      refine lv_lload hx hb dX11_nearer_109 (lv_at hl 1 rfl) ?_
      refine lv_lload hx hb dX11_nearer_111 (lv_at hl 2 rfl) ?_
      refine W.lcmp hx hb dX11_nearer_113 ?_
      refine lv_if_lt (tgt := 145) hx hb dX11_nearer_114 rfl (fun c_9 => ?_) (fun c_9 => ?_)
      · have c_9 : (nrT (S0 q).toInt (S0 (q + 1)).toInt (S0 (q + 2)).toInt (S0 (q + 3)).toInt px.toInt py.toInt) < (nrL (S0 q).toInt (S0 (q + 1)).toInt (S0 (q + 2)).toInt (S0 (q + 3)).toInt) := zl_lt (jI_toInt (by omega)) (jI_toInt (by omega)) c_9
        refine lv_lload hx hb dX11_nearer_145 (lv_at hl 6 rfl) ?_
        refine lv_lload hx hb dX11_nearer_147 (lv_at hl 3 rfl) ?_
        refine lv_lmul hx hb dX11_nearer_149 ?_
        refine lv_lload hx hb dX11_nearer_150 (lv_at hl 5 rfl) ?_
        refine lv_lload hx hb dX11_nearer_152 (lv_at hl 4 rfl) ?_
        refine lv_lmul hx hb dX11_nearer_154 ?_
        refine lv_lsub hx hb dX11_nearer_155 ?_
        refine lv_lstore (lv' := [(21, .long (((((S0 (q + 2)) - (S0 q)).toInt64) * ((py - (S0 (q + 1))).toInt64)) - ((((S0 (q + 3)) - (S0 (q + 1))).toInt64) * ((px - (S0 q)).toInt64)))), (19, .long 1), (15, .long (jI (nrT (S0 q).toInt (S0 (q + 1)).toInt (S0 (q + 2)).toInt (S0 (q + 3)).toInt px.toInt py.toInt))), (13, .long (jI (nrL (S0 q).toInt (S0 (q + 1)).toInt (S0 (q + 2)).toInt (S0 (q + 3)).toInt))), (11, .long ((py - (S0 (q + 1))).toInt64)), (9, .long ((px - (S0 q)).toInt64)), (7, .long (((S0 (q + 3)) - (S0 (q + 1))).toInt64)), (5, .long (((S0 (q + 2)) - (S0 q)).toInt64)), (0, .ref k0), (1, .ref (a 32)), (2, .int px), (3, .int py), (4, .int (nI q))]) hx hb dX11_nearer_156 hl (Nat.le_of_ble_eq_true rfl) rfl (fun ls hl => ?_)
        refine lv_lload hx hb dX11_nearer_158 (lv_at hl 0 rfl) ?_
        refine lv_lload hx hb dX11_nearer_160 (lv_at hl 0 rfl) ?_
        refine lv_lmul hx hb dX11_nearer_162 ?_
        refine zz_l (v := jI (nrU (S0 q).toInt (S0 (q + 1)).toInt (S0 (q + 2)).toInt (S0 (q + 3)).toInt px.toInt py.toInt)) (nr_u2 (hs q (by omega) (by omega)) (hs (q + 1) (by omega) (by omega)) (hs (q + 2) (by omega) (by omega)) (hs (q + 3) (by omega) (by omega)) hpx hpy (by omega) (by omega)) ?_
        refine lv_lstore (lv' := [(17, .long (jI (nrU (S0 q).toInt (S0 (q + 1)).toInt (S0 (q + 2)).toInt (S0 (q + 3)).toInt px.toInt py.toInt))), (21, .long (((((S0 (q + 2)) - (S0 q)).toInt64) * ((py - (S0 (q + 1))).toInt64)) - ((((S0 (q + 3)) - (S0 (q + 1))).toInt64) * ((px - (S0 q)).toInt64)))), (19, .long 1), (15, .long (jI (nrT (S0 q).toInt (S0 (q + 1)).toInt (S0 (q + 2)).toInt (S0 (q + 3)).toInt px.toInt py.toInt))), (13, .long (jI (nrL (S0 q).toInt (S0 (q + 1)).toInt (S0 (q + 2)).toInt (S0 (q + 3)).toInt))), (11, .long ((py - (S0 (q + 1))).toInt64)), (9, .long ((px - (S0 q)).toInt64)), (7, .long (((S0 (q + 3)) - (S0 (q + 1))).toInt64)), (5, .long (((S0 (q + 2)) - (S0 q)).toInt64)), (0, .ref k0), (1, .ref (a 32)), (2, .int px), (3, .int py), (4, .int (nI q))]) hx hb dX11_nearer_163 hl (Nat.le_of_ble_eq_true rfl) rfl (fun ls hl => ?_)
        refine lv_lload hx hb dX11_nearer_165 (lv_at hl 4 rfl) ?_
        refine lv_lstore (lv' := [(19, .long (jI (nrL (S0 q).toInt (S0 (q + 1)).toInt (S0 (q + 2)).toInt (S0 (q + 3)).toInt))), (17, .long (jI (nrU (S0 q).toInt (S0 (q + 1)).toInt (S0 (q + 2)).toInt (S0 (q + 3)).toInt px.toInt py.toInt))), (21, .long (((((S0 (q + 2)) - (S0 q)).toInt64) * ((py - (S0 (q + 1))).toInt64)) - ((((S0 (q + 3)) - (S0 (q + 1))).toInt64) * ((px - (S0 q)).toInt64)))), (15, .long (jI (nrT (S0 q).toInt (S0 (q + 1)).toInt (S0 (q + 2)).toInt (S0 (q + 3)).toInt px.toInt py.toInt))), (13, .long (jI (nrL (S0 q).toInt (S0 (q + 1)).toInt (S0 (q + 2)).toInt (S0 (q + 3)).toInt))), (11, .long ((py - (S0 (q + 1))).toInt64)), (9, .long ((px - (S0 q)).toInt64)), (7, .long (((S0 (q + 3)) - (S0 (q + 1))).toInt64)), (5, .long (((S0 (q + 2)) - (S0 q)).toInt64)), (0, .ref k0), (1, .ref (a 32)), (2, .int px), (3, .int py), (4, .int (nI q))]) hx hb dX11_nearer_167 hl (Nat.le_of_ble_eq_true rfl) rfl (fun ls hl => ?_)
        refine lv_aload_n hx hb dX11_nearer_169 rfl (lv_at hl 9 rfl) ?_
        refine va_get (D := (dC, dI)) (ci := 9) (v := .long (jI d)) (C := RX11) (T := TX11) (N := 55) hx hb hts inX11 hown hK hP 0 rfl rfl 49 (Nat.le_of_ble_eq_true rfl) (hts _ mw_1208) (fun _ h9 => h9) rfl dX11_nearer_170 ?_
        refine lv_lconst (v := 0) hx hb dX11_nearer_173 rfl ?_
        refine W.lcmp hx hb dX11_nearer_174 ?_
        refine lv_if_eq (tgt := 197) hx hb dX11_nearer_175 rfl (fun c_10 => ?_) (fun c_10 => ?_)
        · have c_10 : d = 0 := zl_eq (jI_toInt (by omega)) rfl c_10
          refine lv_aload_n hx hb dX11_nearer_197 rfl (lv_at hl 9 rfl) ?_
          refine lv_lload hx hb dX11_nearer_198 (lv_at hl 1 rfl) ?_
          refine va_put (D := (dC, dI)) (ci := 9) (v := .long (jI (nrU (S0 q).toInt (S0 (q + 1)).toInt (S0 (q + 2)).toInt (S0 (q + 3)).toInt px.toInt py.toInt))) (ty := .long) (C := RX11) (T := TX11) (N := 55) hx hb hts inX11 tyX11 tyX11_ok nmX11 hown hK hP hD hS 0 rfl rfl 48 (by decide) (hts _ mw_1207) (fun _ h9 => h9) rfl (by decide +kernel) rfl rfl (Nat.le_of_ble_eq_true rfl) dX11_nearer_200 (fun H locs hP hD hS => ?_)
          obtain ⟨hP, hD⟩ := zre (W2 := [(om k0 a I0 (vp_updL (vp_updL J0 48 (jI (nrU (S0 q).toInt (S0 (q + 1)).toInt (S0 (q + 2)).toInt (S0 (q + 3)).toInt px.toInt py.toInt))) 49 (jI d))), _]) hP hD rfl
          refine lv_aload_n hx hb dX11_nearer_203 rfl (lv_at hl 9 rfl) ?_
          refine lv_lload hx hb dX11_nearer_204 (lv_at hl 0 rfl) ?_
          refine zz_l (v := jI (nrD (S0 q).toInt (S0 (q + 1)).toInt (S0 (q + 2)).toInt (S0 (q + 3)).toInt px.toInt py.toInt)) (by first | (rw [nrD_0 hT0]; exact jI_1) | (rw [nrD_1 (by omega) (by omega)]; exact jI_1) | (rw [nrD_2 (by omega) (by omega)])) ?_
          refine va_put (D := (dC, dI)) (ci := 9) (v := .long (jI (nrD (S0 q).toInt (S0 (q + 1)).toInt (S0 (q + 2)).toInt (S0 (q + 3)).toInt px.toInt py.toInt))) (ty := .long) (C := RX11) (T := TX11) (N := 55) hx hb hts inX11 tyX11 tyX11_ok nmX11 hown hK hP hD hS 0 rfl rfl 49 (by decide) (hts _ mw_1208) (fun _ h9 => h9) rfl (by decide +kernel) rfl rfl (Nat.le_of_ble_eq_true rfl) dX11_nearer_206 (fun H locs hP hD hS => ?_)
          obtain ⟨hP, hD⟩ := zre (W2 := [(om k0 a I0 (vp_updL (vp_updL J0 48 (jI (nrU (S0 q).toInt (S0 (q + 1)).toInt (S0 (q + 2)).toInt (S0 (q + 3)).toInt px.toInt py.toInt))) 49 (jI (nrD (S0 q).toInt (S0 (q + 1)).toInt (S0 (q + 2)).toInt (S0 (q + 3)).toInt px.toInt py.toInt)))), _]) hP hD rfl
          obtain ⟨hP9, hD9⟩ := zu_sub (wc := [_, _]) hP hD [true, true] rfl rfl
          rw [hQ9]
          exact W.vret hx hb hr (fun t ht hW => ⟨⟨rfl, (nrU (S0 q).toInt (S0 (q + 1)).toInt (S0 (q + 2)).toInt (S0 (q + 3)).toInt px.toInt py.toInt), (nrD (S0 q).toInt (S0 (q + 1)).toInt (S0 (q + 2)).toInt (S0 (q + 3)).toInt px.toInt py.toInt), (by unfold ndP; first | exact Or.inl ⟨Or.inl (by omega), rfl, rfl⟩ | exact Or.inl ⟨Or.inr (by first | with_reducible assumption | assumption), rfl, rfl⟩ | exact Or.inr ⟨fun h => h.elim (by omega) (by first | with_reducible assumption | assumption), rfl, rfl⟩), by rw [ht]; exact hP9, hD9⟩, hS.F ht⟩) hS.2.2 dX11_nearer_209
        · have c_10 : ¬ d = 0 := zl_ne (jI_toInt (by omega)) rfl c_10
          refine lv_aload_n hx hb dX11_nearer_178 rfl (lv_at hl 9 rfl) ?_
          refine lv_lload hx hb dX11_nearer_179 (lv_at hl 1 rfl) ?_
          refine lv_lload hx hb dX11_nearer_181 (lv_at hl 0 rfl) ?_
          refine zz_l (v := jI (nrD (S0 q).toInt (S0 (q + 1)).toInt (S0 (q + 2)).toInt (S0 (q + 3)).toInt px.toInt py.toInt)) (by first | (rw [nrD_0 hT0]; exact jI_1) | (rw [nrD_1 (by omega) (by omega)]; exact jI_1) | (rw [nrD_2 (by omega) (by omega)])) ?_
          refine lv_aload_n hx hb dX11_nearer_183 rfl (lv_at hl 9 rfl) ?_
          refine va_get (D := (dC, dI)) (ci := 9) (v := .long (jI u)) (C := RX11) (T := TX11) (N := 55) hx hb hts inX11 hown hK hP 0 rfl rfl 48 (Nat.le_of_ble_eq_true rfl) (hts _ mw_1207) (fun _ h9 => h9) rfl dX11_nearer_184 ?_
          refine lv_aload_n hx hb dX11_nearer_187 rfl (lv_at hl 9 rfl) ?_
          refine va_get (D := (dC, dI)) (ci := 9) (v := .long (jI d)) (C := RX11) (T := TX11) (N := 55) hx hb hts inX11 hown hK hP 0 rfl rfl 49 (Nat.le_of_ble_eq_true rfl) (hts _ mw_1208) (fun _ h9 => h9) rfl dX11_nearer_188 ?_
          obtain ⟨hPc, hDc, hFc, hI1⟩ := zi_sub (wc := [_]) hP hD hS hA [0] rfl rfl
          refine zcall (st1 := [.int (pI ((nrU (S0 q).toInt (S0 (q + 1)).toInt (S0 (q + 2)).toInt (S0 (q + 3)).toInt px.toInt py.toInt) * d < u * (nrD (S0 q).toInt (S0 (q + 1)).toInt (S0 (q + 2)).toInt (S0 (q + 3)).toInt px.toInt py.toInt)))]) (va_runV (As := [.long (jI (nrU (S0 q).toInt (S0 (q + 1)).toInt (S0 (q + 2)).toInt (S0 (q + 3)).toInt px.toInt py.toInt)), .long (jI (nrD (S0 q).toInt (S0 (q + 1)).toInt (S0 (q + 2)).toInt (S0 (q + 3)).toInt px.toInt py.toInt)), .long (jI u), .long (jI d)]) (rest := []) ⟨hx, hb, hml, hown, hts⟩ (k_M_isLess l dC dI cI cZ cF s.heap.size k0 a I0 (vp_updL (vp_updL J0 48 (jI u)) 49 (jI d)) (nrU (S0 q).toInt (S0 (q + 1)).toInt (S0 (q + 2)).toInt (S0 (q + 3)).toInt px.toInt py.toInt) (nrD (S0 q).toInt (S0 (q + 1)).toInt (S0 (q + 2)).toInt (S0 (q + 3)).toInt px.toInt py.toInt) u d (prN hUb.1 hd9) (prN hu9 ⟨by omega, hUb.2.2⟩) (by first | with_reducible assumption | omega) (by first | with_reducible assumption | omega) (by first | with_reducible assumption | omega) (by first | with_reducible assumption | omega)) (csV_217 hts rfl rfl ⟨Nat.le_of_ble_eq_true rfl, Nat.le_of_ble_eq_true rfl⟩) (zPV2 (q0 := 0) (ci := 9) hPc hDc hK hXN rfl rfl) rfl rfl hl.1 rfl (lv_room (Nat.le_of_ble_eq_true rfl)) dX11_nearer_191 ⟨Nat.le_of_ble_eq_true rfl, Nat.le_of_ble_eq_true rfl⟩) hS hFc hFc rfl (fun t H locs ht hB hk1 hS => ?_)
          obtain ⟨hP1, hD1⟩ := hB
          rw [ht] at hP1
          replace hP := z0 hP hD hk1 hP1 hI1
          clear hk1 hPc hDc hFc hP1 hD1 ht hI1
          refine lv_if_eq (tgt := 209) hx hb dX11_nearer_194 rfl (fun c_11 => ?_) (fun c_11 => ?_)
          · have c_11 : ¬ ((nrU (S0 q).toInt (S0 (q + 1)).toInt (S0 (q + 2)).toInt (S0 (q + 3)).toInt px.toInt py.toInt) * d < u * (nrD (S0 q).toInt (S0 (q + 1)).toInt (S0 (q + 2)).toInt (S0 (q + 3)).toInt px.toInt py.toInt)) := zp_0 c_11
            obtain ⟨hP9, hD9⟩ := zu_sub (wc := [_, _]) hP hD [true, true] rfl rfl
            rw [hQ9]
            exact W.vret hx hb hr (fun t ht hW => ⟨⟨rfl, u, d, (by unfold ndP; first | exact Or.inl ⟨Or.inl (by omega), rfl, rfl⟩ | exact Or.inl ⟨Or.inr (by first | with_reducible assumption | assumption), rfl, rfl⟩ | exact Or.inr ⟨fun h => h.elim (by omega) (by first | with_reducible assumption | assumption), rfl, rfl⟩), by rw [ht]; exact hP9, hD9⟩, hS.F ht⟩) hS.2.2 dX11_nearer_209
          · have c_11 : (nrU (S0 q).toInt (S0 (q + 1)).toInt (S0 (q + 2)).toInt (S0 (q + 3)).toInt px.toInt py.toInt) * d < u * (nrD (S0 q).toInt (S0 (q + 1)).toInt (S0 (q + 2)).toInt (S0 (q + 3)).toInt px.toInt py.toInt) := zp_1 c_11
            refine lv_aload_n hx hb dX11_nearer_197 rfl (lv_at hl 9 rfl) ?_
            refine lv_lload hx hb dX11_nearer_198 (lv_at hl 1 rfl) ?_
            refine va_put (D := (dC, dI)) (ci := 9) (v := .long (jI (nrU (S0 q).toInt (S0 (q + 1)).toInt (S0 (q + 2)).toInt (S0 (q + 3)).toInt px.toInt py.toInt))) (ty := .long) (C := RX11) (T := TX11) (N := 55) hx hb hts inX11 tyX11 tyX11_ok nmX11 hown hK hP hD hS 0 rfl rfl 48 (by decide) (hts _ mw_1207) (fun _ h9 => h9) rfl (by decide +kernel) rfl rfl (Nat.le_of_ble_eq_true rfl) dX11_nearer_200 (fun H locs hP hD hS => ?_)
            obtain ⟨hP, hD⟩ := zre (W2 := [(om k0 a I0 (vp_updL (vp_updL J0 48 (jI (nrU (S0 q).toInt (S0 (q + 1)).toInt (S0 (q + 2)).toInt (S0 (q + 3)).toInt px.toInt py.toInt))) 49 (jI d))), _]) hP hD rfl
            refine lv_aload_n hx hb dX11_nearer_203 rfl (lv_at hl 9 rfl) ?_
            refine lv_lload hx hb dX11_nearer_204 (lv_at hl 0 rfl) ?_
            refine zz_l (v := jI (nrD (S0 q).toInt (S0 (q + 1)).toInt (S0 (q + 2)).toInt (S0 (q + 3)).toInt px.toInt py.toInt)) (by first | (rw [nrD_0 hT0]; exact jI_1) | (rw [nrD_1 (by omega) (by omega)]; exact jI_1) | (rw [nrD_2 (by omega) (by omega)])) ?_
            refine va_put (D := (dC, dI)) (ci := 9) (v := .long (jI (nrD (S0 q).toInt (S0 (q + 1)).toInt (S0 (q + 2)).toInt (S0 (q + 3)).toInt px.toInt py.toInt))) (ty := .long) (C := RX11) (T := TX11) (N := 55) hx hb hts inX11 tyX11 tyX11_ok nmX11 hown hK hP hD hS 0 rfl rfl 49 (by decide) (hts _ mw_1208) (fun _ h9 => h9) rfl (by decide +kernel) rfl rfl (Nat.le_of_ble_eq_true rfl) dX11_nearer_206 (fun H locs hP hD hS => ?_)
            obtain ⟨hP, hD⟩ := zre (W2 := [(om k0 a I0 (vp_updL (vp_updL J0 48 (jI (nrU (S0 q).toInt (S0 (q + 1)).toInt (S0 (q + 2)).toInt (S0 (q + 3)).toInt px.toInt py.toInt))) 49 (jI (nrD (S0 q).toInt (S0 (q + 1)).toInt (S0 (q + 2)).toInt (S0 (q + 3)).toInt px.toInt py.toInt)))), _]) hP hD rfl
            obtain ⟨hP9, hD9⟩ := zu_sub (wc := [_, _]) hP hD [true, true] rfl rfl
            rw [hQ9]
            exact W.vret hx hb hr (fun t ht hW => ⟨⟨rfl, (nrU (S0 q).toInt (S0 (q + 1)).toInt (S0 (q + 2)).toInt (S0 (q + 3)).toInt px.toInt py.toInt), (nrD (S0 q).toInt (S0 (q + 1)).toInt (S0 (q + 2)).toInt (S0 (q + 3)).toInt px.toInt py.toInt), (by unfold ndP; first | exact Or.inl ⟨Or.inl (by omega), rfl, rfl⟩ | exact Or.inl ⟨Or.inr (by first | with_reducible assumption | assumption), rfl, rfl⟩ | exact Or.inr ⟨fun h => h.elim (by omega) (by first | with_reducible assumption | assumption), rfl, rfl⟩), by rw [ht]; exact hP9, hD9⟩, hS.F ht⟩) hS.2.2 dX11_nearer_209
      · have c_9 : (nrL (S0 q).toInt (S0 (q + 1)).toInt (S0 (q + 2)).toInt (S0 (q + 3)).toInt) ≤ (nrT (S0 q).toInt (S0 (q + 1)).toInt (S0 (q + 2)).toInt (S0 (q + 3)).toInt px.toInt py.toInt) := zl_nlt (jI_toInt (by omega)) (jI_toInt (by omega)) c_9
        refine lv_lload hx hb dX11_nearer_117 (lv_at hl 4 rfl) ?_
        refine lv_lload hx hb dX11_nearer_119 (lv_at hl 6 rfl) ?_
        refine lv_lsub hx hb dX11_nearer_121 ?_
        refine lv_lload hx hb dX11_nearer_122 (lv_at hl 4 rfl) ?_
        refine lv_lload hx hb dX11_nearer_124 (lv_at hl 6 rfl) ?_
        refine lv_lsub hx hb dX11_nearer_126 ?_
        refine lv_lmul hx hb dX11_nearer_127 ?_
        refine lv_lload hx hb dX11_nearer_128 (lv_at hl 3 rfl) ?_
        refine lv_lload hx hb dX11_nearer_130 (lv_at hl 5 rfl) ?_
        refine lv_lsub hx hb dX11_nearer_132 ?_
        refine lv_lload hx hb dX11_nearer_133 (lv_at hl 3 rfl) ?_
        refine lv_lload hx hb dX11_nearer_135 (lv_at hl 5 rfl) ?_
        refine lv_lsub hx hb dX11_nearer_137 ?_
        refine lv_lmul hx hb dX11_nearer_138 ?_
        refine lv_ladd hx hb dX11_nearer_139 ?_
        refine zz_l (v := jI (nrU (S0 q).toInt (S0 (q + 1)).toInt (S0 (q + 2)).toInt (S0 (q + 3)).toInt px.toInt py.toInt)) (nr_u1 (hs q (by omega) (by omega)) (hs (q + 1) (by omega) (by omega)) (hs (q + 2) (by omega) (by omega)) (hs (q + 3) (by omega) (by omega)) hpx hpy (by omega) (by omega)) ?_
        refine lv_lstore (lv' := [(17, .long (jI (nrU (S0 q).toInt (S0 (q + 1)).toInt (S0 (q + 2)).toInt (S0 (q + 3)).toInt px.toInt py.toInt))), (19, .long 1), (15, .long (jI (nrT (S0 q).toInt (S0 (q + 1)).toInt (S0 (q + 2)).toInt (S0 (q + 3)).toInt px.toInt py.toInt))), (13, .long (jI (nrL (S0 q).toInt (S0 (q + 1)).toInt (S0 (q + 2)).toInt (S0 (q + 3)).toInt))), (11, .long ((py - (S0 (q + 1))).toInt64)), (9, .long ((px - (S0 q)).toInt64)), (7, .long (((S0 (q + 3)) - (S0 (q + 1))).toInt64)), (5, .long (((S0 (q + 2)) - (S0 q)).toInt64)), (0, .ref k0), (1, .ref (a 32)), (2, .int px), (3, .int py), (4, .int (nI q))]) hx hb dX11_nearer_140 hl (Nat.le_of_ble_eq_true rfl) rfl (fun ls hl => ?_)
        refine lv_goto (tgt := 169) hx hb dX11_nearer_142 rfl ?_
        refine lv_aload_n hx hb dX11_nearer_169 rfl (lv_at hl 8 rfl) ?_
        refine va_get (D := (dC, dI)) (ci := 9) (v := .long (jI d)) (C := RX11) (T := TX11) (N := 55) hx hb hts inX11 hown hK hP 0 rfl rfl 49 (Nat.le_of_ble_eq_true rfl) (hts _ mw_1208) (fun _ h9 => h9) rfl dX11_nearer_170 ?_
        refine lv_lconst (v := 0) hx hb dX11_nearer_173 rfl ?_
        refine W.lcmp hx hb dX11_nearer_174 ?_
        refine lv_if_eq (tgt := 197) hx hb dX11_nearer_175 rfl (fun c_12 => ?_) (fun c_12 => ?_)
        · have c_12 : d = 0 := zl_eq (jI_toInt (by omega)) rfl c_12
          refine lv_aload_n hx hb dX11_nearer_197 rfl (lv_at hl 8 rfl) ?_
          refine lv_lload hx hb dX11_nearer_198 (lv_at hl 0 rfl) ?_
          refine va_put (D := (dC, dI)) (ci := 9) (v := .long (jI (nrU (S0 q).toInt (S0 (q + 1)).toInt (S0 (q + 2)).toInt (S0 (q + 3)).toInt px.toInt py.toInt))) (ty := .long) (C := RX11) (T := TX11) (N := 55) hx hb hts inX11 tyX11 tyX11_ok nmX11 hown hK hP hD hS 0 rfl rfl 48 (by decide) (hts _ mw_1207) (fun _ h9 => h9) rfl (by decide +kernel) rfl rfl (Nat.le_of_ble_eq_true rfl) dX11_nearer_200 (fun H locs hP hD hS => ?_)
          obtain ⟨hP, hD⟩ := zre (W2 := [(om k0 a I0 (vp_updL (vp_updL J0 48 (jI (nrU (S0 q).toInt (S0 (q + 1)).toInt (S0 (q + 2)).toInt (S0 (q + 3)).toInt px.toInt py.toInt))) 49 (jI d))), _]) hP hD rfl
          refine lv_aload_n hx hb dX11_nearer_203 rfl (lv_at hl 8 rfl) ?_
          refine lv_lload hx hb dX11_nearer_204 (lv_at hl 1 rfl) ?_
          refine zz_l (v := jI (nrD (S0 q).toInt (S0 (q + 1)).toInt (S0 (q + 2)).toInt (S0 (q + 3)).toInt px.toInt py.toInt)) (by first | (rw [nrD_0 hT0]; exact jI_1) | (rw [nrD_1 (by omega) (by omega)]; exact jI_1) | (rw [nrD_2 (by omega) (by omega)])) ?_
          refine va_put (D := (dC, dI)) (ci := 9) (v := .long (jI (nrD (S0 q).toInt (S0 (q + 1)).toInt (S0 (q + 2)).toInt (S0 (q + 3)).toInt px.toInt py.toInt))) (ty := .long) (C := RX11) (T := TX11) (N := 55) hx hb hts inX11 tyX11 tyX11_ok nmX11 hown hK hP hD hS 0 rfl rfl 49 (by decide) (hts _ mw_1208) (fun _ h9 => h9) rfl (by decide +kernel) rfl rfl (Nat.le_of_ble_eq_true rfl) dX11_nearer_206 (fun H locs hP hD hS => ?_)
          obtain ⟨hP, hD⟩ := zre (W2 := [(om k0 a I0 (vp_updL (vp_updL J0 48 (jI (nrU (S0 q).toInt (S0 (q + 1)).toInt (S0 (q + 2)).toInt (S0 (q + 3)).toInt px.toInt py.toInt))) 49 (jI (nrD (S0 q).toInt (S0 (q + 1)).toInt (S0 (q + 2)).toInt (S0 (q + 3)).toInt px.toInt py.toInt)))), _]) hP hD rfl
          obtain ⟨hP9, hD9⟩ := zu_sub (wc := [_, _]) hP hD [true, true] rfl rfl
          rw [hQ9]
          exact W.vret hx hb hr (fun t ht hW => ⟨⟨rfl, (nrU (S0 q).toInt (S0 (q + 1)).toInt (S0 (q + 2)).toInt (S0 (q + 3)).toInt px.toInt py.toInt), (nrD (S0 q).toInt (S0 (q + 1)).toInt (S0 (q + 2)).toInt (S0 (q + 3)).toInt px.toInt py.toInt), (by unfold ndP; first | exact Or.inl ⟨Or.inl (by omega), rfl, rfl⟩ | exact Or.inl ⟨Or.inr (by first | with_reducible assumption | assumption), rfl, rfl⟩ | exact Or.inr ⟨fun h => h.elim (by omega) (by first | with_reducible assumption | assumption), rfl, rfl⟩), by rw [ht]; exact hP9, hD9⟩, hS.F ht⟩) hS.2.2 dX11_nearer_209
        · have c_12 : ¬ d = 0 := zl_ne (jI_toInt (by omega)) rfl c_12
          refine lv_aload_n hx hb dX11_nearer_178 rfl (lv_at hl 8 rfl) ?_
          refine lv_lload hx hb dX11_nearer_179 (lv_at hl 0 rfl) ?_
          refine lv_lload hx hb dX11_nearer_181 (lv_at hl 1 rfl) ?_
          refine zz_l (v := jI (nrD (S0 q).toInt (S0 (q + 1)).toInt (S0 (q + 2)).toInt (S0 (q + 3)).toInt px.toInt py.toInt)) (by first | (rw [nrD_0 hT0]; exact jI_1) | (rw [nrD_1 (by omega) (by omega)]; exact jI_1) | (rw [nrD_2 (by omega) (by omega)])) ?_
          refine lv_aload_n hx hb dX11_nearer_183 rfl (lv_at hl 8 rfl) ?_
          refine va_get (D := (dC, dI)) (ci := 9) (v := .long (jI u)) (C := RX11) (T := TX11) (N := 55) hx hb hts inX11 hown hK hP 0 rfl rfl 48 (Nat.le_of_ble_eq_true rfl) (hts _ mw_1207) (fun _ h9 => h9) rfl dX11_nearer_184 ?_
          refine lv_aload_n hx hb dX11_nearer_187 rfl (lv_at hl 8 rfl) ?_
          refine va_get (D := (dC, dI)) (ci := 9) (v := .long (jI d)) (C := RX11) (T := TX11) (N := 55) hx hb hts inX11 hown hK hP 0 rfl rfl 49 (Nat.le_of_ble_eq_true rfl) (hts _ mw_1208) (fun _ h9 => h9) rfl dX11_nearer_188 ?_
          obtain ⟨hPc, hDc, hFc, hI1⟩ := zi_sub (wc := [_]) hP hD hS hA [0] rfl rfl
          refine zcall (st1 := [.int (pI ((nrU (S0 q).toInt (S0 (q + 1)).toInt (S0 (q + 2)).toInt (S0 (q + 3)).toInt px.toInt py.toInt) * d < u * (nrD (S0 q).toInt (S0 (q + 1)).toInt (S0 (q + 2)).toInt (S0 (q + 3)).toInt px.toInt py.toInt)))]) (va_runV (As := [.long (jI (nrU (S0 q).toInt (S0 (q + 1)).toInt (S0 (q + 2)).toInt (S0 (q + 3)).toInt px.toInt py.toInt)), .long (jI (nrD (S0 q).toInt (S0 (q + 1)).toInt (S0 (q + 2)).toInt (S0 (q + 3)).toInt px.toInt py.toInt)), .long (jI u), .long (jI d)]) (rest := []) ⟨hx, hb, hml, hown, hts⟩ (k_M_isLess l dC dI cI cZ cF s.heap.size k0 a I0 (vp_updL (vp_updL J0 48 (jI u)) 49 (jI d)) (nrU (S0 q).toInt (S0 (q + 1)).toInt (S0 (q + 2)).toInt (S0 (q + 3)).toInt px.toInt py.toInt) (nrD (S0 q).toInt (S0 (q + 1)).toInt (S0 (q + 2)).toInt (S0 (q + 3)).toInt px.toInt py.toInt) u d (prN hUb.1 hd9) (prN hu9 ⟨by omega, hUb.2.2⟩) (by first | with_reducible assumption | omega) (by first | with_reducible assumption | omega) (by first | with_reducible assumption | omega) (by first | with_reducible assumption | omega)) (csV_217 hts rfl rfl ⟨Nat.le_of_ble_eq_true rfl, Nat.le_of_ble_eq_true rfl⟩) (zPV2 (q0 := 0) (ci := 9) hPc hDc hK hXN rfl rfl) rfl rfl hl.1 rfl (lv_room (Nat.le_of_ble_eq_true rfl)) dX11_nearer_191 ⟨Nat.le_of_ble_eq_true rfl, Nat.le_of_ble_eq_true rfl⟩) hS hFc hFc rfl (fun t H locs ht hB hk1 hS => ?_)
          obtain ⟨hP1, hD1⟩ := hB
          rw [ht] at hP1
          replace hP := z0 hP hD hk1 hP1 hI1
          clear hk1 hPc hDc hFc hP1 hD1 ht hI1
          refine lv_if_eq (tgt := 209) hx hb dX11_nearer_194 rfl (fun c_13 => ?_) (fun c_13 => ?_)
          · have c_13 : ¬ ((nrU (S0 q).toInt (S0 (q + 1)).toInt (S0 (q + 2)).toInt (S0 (q + 3)).toInt px.toInt py.toInt) * d < u * (nrD (S0 q).toInt (S0 (q + 1)).toInt (S0 (q + 2)).toInt (S0 (q + 3)).toInt px.toInt py.toInt)) := zp_0 c_13
            obtain ⟨hP9, hD9⟩ := zu_sub (wc := [_, _]) hP hD [true, true] rfl rfl
            rw [hQ9]
            exact W.vret hx hb hr (fun t ht hW => ⟨⟨rfl, u, d, (by unfold ndP; first | exact Or.inl ⟨Or.inl (by omega), rfl, rfl⟩ | exact Or.inl ⟨Or.inr (by first | with_reducible assumption | assumption), rfl, rfl⟩ | exact Or.inr ⟨fun h => h.elim (by omega) (by first | with_reducible assumption | assumption), rfl, rfl⟩), by rw [ht]; exact hP9, hD9⟩, hS.F ht⟩) hS.2.2 dX11_nearer_209
          · have c_13 : (nrU (S0 q).toInt (S0 (q + 1)).toInt (S0 (q + 2)).toInt (S0 (q + 3)).toInt px.toInt py.toInt) * d < u * (nrD (S0 q).toInt (S0 (q + 1)).toInt (S0 (q + 2)).toInt (S0 (q + 3)).toInt px.toInt py.toInt) := zp_1 c_13
            refine lv_aload_n hx hb dX11_nearer_197 rfl (lv_at hl 8 rfl) ?_
            refine lv_lload hx hb dX11_nearer_198 (lv_at hl 0 rfl) ?_
            refine va_put (D := (dC, dI)) (ci := 9) (v := .long (jI (nrU (S0 q).toInt (S0 (q + 1)).toInt (S0 (q + 2)).toInt (S0 (q + 3)).toInt px.toInt py.toInt))) (ty := .long) (C := RX11) (T := TX11) (N := 55) hx hb hts inX11 tyX11 tyX11_ok nmX11 hown hK hP hD hS 0 rfl rfl 48 (by decide) (hts _ mw_1207) (fun _ h9 => h9) rfl (by decide +kernel) rfl rfl (Nat.le_of_ble_eq_true rfl) dX11_nearer_200 (fun H locs hP hD hS => ?_)
            obtain ⟨hP, hD⟩ := zre (W2 := [(om k0 a I0 (vp_updL (vp_updL J0 48 (jI (nrU (S0 q).toInt (S0 (q + 1)).toInt (S0 (q + 2)).toInt (S0 (q + 3)).toInt px.toInt py.toInt))) 49 (jI d))), _]) hP hD rfl
            refine lv_aload_n hx hb dX11_nearer_203 rfl (lv_at hl 8 rfl) ?_
            refine lv_lload hx hb dX11_nearer_204 (lv_at hl 1 rfl) ?_
            refine zz_l (v := jI (nrD (S0 q).toInt (S0 (q + 1)).toInt (S0 (q + 2)).toInt (S0 (q + 3)).toInt px.toInt py.toInt)) (by first | (rw [nrD_0 hT0]; exact jI_1) | (rw [nrD_1 (by omega) (by omega)]; exact jI_1) | (rw [nrD_2 (by omega) (by omega)])) ?_
            refine va_put (D := (dC, dI)) (ci := 9) (v := .long (jI (nrD (S0 q).toInt (S0 (q + 1)).toInt (S0 (q + 2)).toInt (S0 (q + 3)).toInt px.toInt py.toInt))) (ty := .long) (C := RX11) (T := TX11) (N := 55) hx hb hts inX11 tyX11 tyX11_ok nmX11 hown hK hP hD hS 0 rfl rfl 49 (by decide) (hts _ mw_1208) (fun _ h9 => h9) rfl (by decide +kernel) rfl rfl (Nat.le_of_ble_eq_true rfl) dX11_nearer_206 (fun H locs hP hD hS => ?_)
            obtain ⟨hP, hD⟩ := zre (W2 := [(om k0 a I0 (vp_updL (vp_updL J0 48 (jI (nrU (S0 q).toInt (S0 (q + 1)).toInt (S0 (q + 2)).toInt (S0 (q + 3)).toInt px.toInt py.toInt))) 49 (jI (nrD (S0 q).toInt (S0 (q + 1)).toInt (S0 (q + 2)).toInt (S0 (q + 3)).toInt px.toInt py.toInt)))), _]) hP hD rfl
            obtain ⟨hP9, hD9⟩ := zu_sub (wc := [_, _]) hP hD [true, true] rfl rfl
            rw [hQ9]
            exact W.vret hx hb hr (fun t ht hW => ⟨⟨rfl, (nrU (S0 q).toInt (S0 (q + 1)).toInt (S0 (q + 2)).toInt (S0 (q + 3)).toInt px.toInt py.toInt), (nrD (S0 q).toInt (S0 (q + 1)).toInt (S0 (q + 2)).toInt (S0 (q + 3)).toInt px.toInt py.toInt), (by unfold ndP; first | exact Or.inl ⟨Or.inl (by omega), rfl, rfl⟩ | exact Or.inl ⟨Or.inr (by first | with_reducible assumption | assumption), rfl, rfl⟩ | exact Or.inr ⟨fun h => h.elim (by omega) (by first | with_reducible assumption | assumption), rfl, rfl⟩), by rw [ht]; exact hP9, hD9⟩, hS.F ht⟩) hS.2.2 dX11_nearer_209
    · have c_8 : (nrT (S0 q).toInt (S0 (q + 1)).toInt (S0 (q + 2)).toInt (S0 (q + 3)).toInt px.toInt py.toInt) ≤ 0 := zl_ngt (jI_toInt (by omega)) rfl c_8
      have hT0 : nrT (S0 q).toInt (S0 (q + 1)).toInt (S0 (q + 2)).toInt (S0 (q + 3)).toInt px.toInt py.toInt ≤ 0 := (by first | omega | (have h9 := nrT_0 (x := px.toInt) (y := py.toInt) (show nrL (S0 q).toInt (S0 (q + 1)).toInt (S0 (q + 2)).toInt (S0 (q + 3)).toInt = 0 by assumption); omega))
      refine lv_lload hx hb dX11_nearer_93 (lv_at hl 4 rfl) ?_
      refine lv_lload hx hb dX11_nearer_95 (lv_at hl 4 rfl) ?_
      refine lv_lmul hx hb dX11_nearer_97 ?_
      refine lv_lload hx hb dX11_nearer_98 (lv_at hl 3 rfl) ?_
      refine lv_lload hx hb dX11_nearer_100 (lv_at hl 3 rfl) ?_
      refine lv_lmul hx hb dX11_nearer_102 ?_
      refine lv_ladd hx hb dX11_nearer_103 ?_
      refine zz_l (v := jI (nrU (S0 q).toInt (S0 (q + 1)).toInt (S0 (q + 2)).toInt (S0 (q + 3)).toInt px.toInt py.toInt)) (nr_u0 (hs q (by omega) (by omega)) (hs (q + 1) (by omega) (by omega)) hpx hpy hT0) ?_
      refine lv_lstore (lv' := [(17, .long (jI (nrU (S0 q).toInt (S0 (q + 1)).toInt (S0 (q + 2)).toInt (S0 (q + 3)).toInt px.toInt py.toInt))), (19, .long 1), (15, .long (jI (nrT (S0 q).toInt (S0 (q + 1)).toInt (S0 (q + 2)).toInt (S0 (q + 3)).toInt px.toInt py.toInt))), (13, .long (jI (nrL (S0 q).toInt (S0 (q + 1)).toInt (S0 (q + 2)).toInt (S0 (q + 3)).toInt))), (11, .long ((py - (S0 (q + 1))).toInt64)), (9, .long ((px - (S0 q)).toInt64)), (7, .long (((S0 (q + 3)) - (S0 (q + 1))).toInt64)), (5, .long (((S0 (q + 2)) - (S0 q)).toInt64)), (0, .ref k0), (1, .ref (a 32)), (2, .int px), (3, .int py), (4, .int (nI q))]) hx hb dX11_nearer_104 hl (Nat.le_of_ble_eq_true rfl) rfl (fun ls hl => ?_)
      refine lv_goto (tgt := 169) hx hb dX11_nearer_106 rfl ?_
      refine lv_aload_n hx hb dX11_nearer_169 rfl (lv_at hl 8 rfl) ?_
      refine va_get (D := (dC, dI)) (ci := 9) (v := .long (jI d)) (C := RX11) (T := TX11) (N := 55) hx hb hts inX11 hown hK hP 0 rfl rfl 49 (Nat.le_of_ble_eq_true rfl) (hts _ mw_1208) (fun _ h9 => h9) rfl dX11_nearer_170 ?_
      refine lv_lconst (v := 0) hx hb dX11_nearer_173 rfl ?_
      refine W.lcmp hx hb dX11_nearer_174 ?_
      refine lv_if_eq (tgt := 197) hx hb dX11_nearer_175 rfl (fun c_14 => ?_) (fun c_14 => ?_)
      · have c_14 : d = 0 := zl_eq (jI_toInt (by omega)) rfl c_14
        refine lv_aload_n hx hb dX11_nearer_197 rfl (lv_at hl 8 rfl) ?_
        refine lv_lload hx hb dX11_nearer_198 (lv_at hl 0 rfl) ?_
        refine va_put (D := (dC, dI)) (ci := 9) (v := .long (jI (nrU (S0 q).toInt (S0 (q + 1)).toInt (S0 (q + 2)).toInt (S0 (q + 3)).toInt px.toInt py.toInt))) (ty := .long) (C := RX11) (T := TX11) (N := 55) hx hb hts inX11 tyX11 tyX11_ok nmX11 hown hK hP hD hS 0 rfl rfl 48 (by decide) (hts _ mw_1207) (fun _ h9 => h9) rfl (by decide +kernel) rfl rfl (Nat.le_of_ble_eq_true rfl) dX11_nearer_200 (fun H locs hP hD hS => ?_)
        obtain ⟨hP, hD⟩ := zre (W2 := [(om k0 a I0 (vp_updL (vp_updL J0 48 (jI (nrU (S0 q).toInt (S0 (q + 1)).toInt (S0 (q + 2)).toInt (S0 (q + 3)).toInt px.toInt py.toInt))) 49 (jI d))), _]) hP hD rfl
        refine lv_aload_n hx hb dX11_nearer_203 rfl (lv_at hl 8 rfl) ?_
        refine lv_lload hx hb dX11_nearer_204 (lv_at hl 1 rfl) ?_
        refine zz_l (v := jI (nrD (S0 q).toInt (S0 (q + 1)).toInt (S0 (q + 2)).toInt (S0 (q + 3)).toInt px.toInt py.toInt)) (by first | (rw [nrD_0 hT0]; exact jI_1) | (rw [nrD_1 (by omega) (by omega)]; exact jI_1) | (rw [nrD_2 (by omega) (by omega)])) ?_
        refine va_put (D := (dC, dI)) (ci := 9) (v := .long (jI (nrD (S0 q).toInt (S0 (q + 1)).toInt (S0 (q + 2)).toInt (S0 (q + 3)).toInt px.toInt py.toInt))) (ty := .long) (C := RX11) (T := TX11) (N := 55) hx hb hts inX11 tyX11 tyX11_ok nmX11 hown hK hP hD hS 0 rfl rfl 49 (by decide) (hts _ mw_1208) (fun _ h9 => h9) rfl (by decide +kernel) rfl rfl (Nat.le_of_ble_eq_true rfl) dX11_nearer_206 (fun H locs hP hD hS => ?_)
        obtain ⟨hP, hD⟩ := zre (W2 := [(om k0 a I0 (vp_updL (vp_updL J0 48 (jI (nrU (S0 q).toInt (S0 (q + 1)).toInt (S0 (q + 2)).toInt (S0 (q + 3)).toInt px.toInt py.toInt))) 49 (jI (nrD (S0 q).toInt (S0 (q + 1)).toInt (S0 (q + 2)).toInt (S0 (q + 3)).toInt px.toInt py.toInt)))), _]) hP hD rfl
        obtain ⟨hP9, hD9⟩ := zu_sub (wc := [_, _]) hP hD [true, true] rfl rfl
        rw [hQ9]
        exact W.vret hx hb hr (fun t ht hW => ⟨⟨rfl, (nrU (S0 q).toInt (S0 (q + 1)).toInt (S0 (q + 2)).toInt (S0 (q + 3)).toInt px.toInt py.toInt), (nrD (S0 q).toInt (S0 (q + 1)).toInt (S0 (q + 2)).toInt (S0 (q + 3)).toInt px.toInt py.toInt), (by unfold ndP; first | exact Or.inl ⟨Or.inl (by omega), rfl, rfl⟩ | exact Or.inl ⟨Or.inr (by first | with_reducible assumption | assumption), rfl, rfl⟩ | exact Or.inr ⟨fun h => h.elim (by omega) (by first | with_reducible assumption | assumption), rfl, rfl⟩), by rw [ht]; exact hP9, hD9⟩, hS.F ht⟩) hS.2.2 dX11_nearer_209
      · have c_14 : ¬ d = 0 := zl_ne (jI_toInt (by omega)) rfl c_14
        refine lv_aload_n hx hb dX11_nearer_178 rfl (lv_at hl 8 rfl) ?_
        refine lv_lload hx hb dX11_nearer_179 (lv_at hl 0 rfl) ?_
        refine lv_lload hx hb dX11_nearer_181 (lv_at hl 1 rfl) ?_
        refine zz_l (v := jI (nrD (S0 q).toInt (S0 (q + 1)).toInt (S0 (q + 2)).toInt (S0 (q + 3)).toInt px.toInt py.toInt)) (by first | (rw [nrD_0 hT0]; exact jI_1) | (rw [nrD_1 (by omega) (by omega)]; exact jI_1) | (rw [nrD_2 (by omega) (by omega)])) ?_
        refine lv_aload_n hx hb dX11_nearer_183 rfl (lv_at hl 8 rfl) ?_
        refine va_get (D := (dC, dI)) (ci := 9) (v := .long (jI u)) (C := RX11) (T := TX11) (N := 55) hx hb hts inX11 hown hK hP 0 rfl rfl 48 (Nat.le_of_ble_eq_true rfl) (hts _ mw_1207) (fun _ h9 => h9) rfl dX11_nearer_184 ?_
        refine lv_aload_n hx hb dX11_nearer_187 rfl (lv_at hl 8 rfl) ?_
        refine va_get (D := (dC, dI)) (ci := 9) (v := .long (jI d)) (C := RX11) (T := TX11) (N := 55) hx hb hts inX11 hown hK hP 0 rfl rfl 49 (Nat.le_of_ble_eq_true rfl) (hts _ mw_1208) (fun _ h9 => h9) rfl dX11_nearer_188 ?_
        obtain ⟨hPc, hDc, hFc, hI1⟩ := zi_sub (wc := [_]) hP hD hS hA [0] rfl rfl
        refine zcall (st1 := [.int (pI ((nrU (S0 q).toInt (S0 (q + 1)).toInt (S0 (q + 2)).toInt (S0 (q + 3)).toInt px.toInt py.toInt) * d < u * (nrD (S0 q).toInt (S0 (q + 1)).toInt (S0 (q + 2)).toInt (S0 (q + 3)).toInt px.toInt py.toInt)))]) (va_runV (As := [.long (jI (nrU (S0 q).toInt (S0 (q + 1)).toInt (S0 (q + 2)).toInt (S0 (q + 3)).toInt px.toInt py.toInt)), .long (jI (nrD (S0 q).toInt (S0 (q + 1)).toInt (S0 (q + 2)).toInt (S0 (q + 3)).toInt px.toInt py.toInt)), .long (jI u), .long (jI d)]) (rest := []) ⟨hx, hb, hml, hown, hts⟩ (k_M_isLess l dC dI cI cZ cF s.heap.size k0 a I0 (vp_updL (vp_updL J0 48 (jI u)) 49 (jI d)) (nrU (S0 q).toInt (S0 (q + 1)).toInt (S0 (q + 2)).toInt (S0 (q + 3)).toInt px.toInt py.toInt) (nrD (S0 q).toInt (S0 (q + 1)).toInt (S0 (q + 2)).toInt (S0 (q + 3)).toInt px.toInt py.toInt) u d (prN hUb.1 hd9) (prN hu9 ⟨by omega, hUb.2.2⟩) (by first | with_reducible assumption | omega) (by first | with_reducible assumption | omega) (by first | with_reducible assumption | omega) (by first | with_reducible assumption | omega)) (csV_217 hts rfl rfl ⟨Nat.le_of_ble_eq_true rfl, Nat.le_of_ble_eq_true rfl⟩) (zPV2 (q0 := 0) (ci := 9) hPc hDc hK hXN rfl rfl) rfl rfl hl.1 rfl (lv_room (Nat.le_of_ble_eq_true rfl)) dX11_nearer_191 ⟨Nat.le_of_ble_eq_true rfl, Nat.le_of_ble_eq_true rfl⟩) hS hFc hFc rfl (fun t H locs ht hB hk1 hS => ?_)
        obtain ⟨hP1, hD1⟩ := hB
        rw [ht] at hP1
        replace hP := z0 hP hD hk1 hP1 hI1
        clear hk1 hPc hDc hFc hP1 hD1 ht hI1
        refine lv_if_eq (tgt := 209) hx hb dX11_nearer_194 rfl (fun c_15 => ?_) (fun c_15 => ?_)
        · have c_15 : ¬ ((nrU (S0 q).toInt (S0 (q + 1)).toInt (S0 (q + 2)).toInt (S0 (q + 3)).toInt px.toInt py.toInt) * d < u * (nrD (S0 q).toInt (S0 (q + 1)).toInt (S0 (q + 2)).toInt (S0 (q + 3)).toInt px.toInt py.toInt)) := zp_0 c_15
          obtain ⟨hP9, hD9⟩ := zu_sub (wc := [_, _]) hP hD [true, true] rfl rfl
          rw [hQ9]
          exact W.vret hx hb hr (fun t ht hW => ⟨⟨rfl, u, d, (by unfold ndP; first | exact Or.inl ⟨Or.inl (by omega), rfl, rfl⟩ | exact Or.inl ⟨Or.inr (by first | with_reducible assumption | assumption), rfl, rfl⟩ | exact Or.inr ⟨fun h => h.elim (by omega) (by first | with_reducible assumption | assumption), rfl, rfl⟩), by rw [ht]; exact hP9, hD9⟩, hS.F ht⟩) hS.2.2 dX11_nearer_209
        · have c_15 : (nrU (S0 q).toInt (S0 (q + 1)).toInt (S0 (q + 2)).toInt (S0 (q + 3)).toInt px.toInt py.toInt) * d < u * (nrD (S0 q).toInt (S0 (q + 1)).toInt (S0 (q + 2)).toInt (S0 (q + 3)).toInt px.toInt py.toInt) := zp_1 c_15
          refine lv_aload_n hx hb dX11_nearer_197 rfl (lv_at hl 8 rfl) ?_
          refine lv_lload hx hb dX11_nearer_198 (lv_at hl 0 rfl) ?_
          refine va_put (D := (dC, dI)) (ci := 9) (v := .long (jI (nrU (S0 q).toInt (S0 (q + 1)).toInt (S0 (q + 2)).toInt (S0 (q + 3)).toInt px.toInt py.toInt))) (ty := .long) (C := RX11) (T := TX11) (N := 55) hx hb hts inX11 tyX11 tyX11_ok nmX11 hown hK hP hD hS 0 rfl rfl 48 (by decide) (hts _ mw_1207) (fun _ h9 => h9) rfl (by decide +kernel) rfl rfl (Nat.le_of_ble_eq_true rfl) dX11_nearer_200 (fun H locs hP hD hS => ?_)
          obtain ⟨hP, hD⟩ := zre (W2 := [(om k0 a I0 (vp_updL (vp_updL J0 48 (jI (nrU (S0 q).toInt (S0 (q + 1)).toInt (S0 (q + 2)).toInt (S0 (q + 3)).toInt px.toInt py.toInt))) 49 (jI d))), _]) hP hD rfl
          refine lv_aload_n hx hb dX11_nearer_203 rfl (lv_at hl 8 rfl) ?_
          refine lv_lload hx hb dX11_nearer_204 (lv_at hl 1 rfl) ?_
          refine zz_l (v := jI (nrD (S0 q).toInt (S0 (q + 1)).toInt (S0 (q + 2)).toInt (S0 (q + 3)).toInt px.toInt py.toInt)) (by first | (rw [nrD_0 hT0]; exact jI_1) | (rw [nrD_1 (by omega) (by omega)]; exact jI_1) | (rw [nrD_2 (by omega) (by omega)])) ?_
          refine va_put (D := (dC, dI)) (ci := 9) (v := .long (jI (nrD (S0 q).toInt (S0 (q + 1)).toInt (S0 (q + 2)).toInt (S0 (q + 3)).toInt px.toInt py.toInt))) (ty := .long) (C := RX11) (T := TX11) (N := 55) hx hb hts inX11 tyX11 tyX11_ok nmX11 hown hK hP hD hS 0 rfl rfl 49 (by decide) (hts _ mw_1208) (fun _ h9 => h9) rfl (by decide +kernel) rfl rfl (Nat.le_of_ble_eq_true rfl) dX11_nearer_206 (fun H locs hP hD hS => ?_)
          obtain ⟨hP, hD⟩ := zre (W2 := [(om k0 a I0 (vp_updL (vp_updL J0 48 (jI (nrU (S0 q).toInt (S0 (q + 1)).toInt (S0 (q + 2)).toInt (S0 (q + 3)).toInt px.toInt py.toInt))) 49 (jI (nrD (S0 q).toInt (S0 (q + 1)).toInt (S0 (q + 2)).toInt (S0 (q + 3)).toInt px.toInt py.toInt)))), _]) hP hD rfl
          obtain ⟨hP9, hD9⟩ := zu_sub (wc := [_, _]) hP hD [true, true] rfl rfl
          rw [hQ9]
          exact W.vret hx hb hr (fun t ht hW => ⟨⟨rfl, (nrU (S0 q).toInt (S0 (q + 1)).toInt (S0 (q + 2)).toInt (S0 (q + 3)).toInt px.toInt py.toInt), (nrD (S0 q).toInt (S0 (q + 1)).toInt (S0 (q + 2)).toInt (S0 (q + 3)).toInt px.toInt py.toInt), (by unfold ndP; first | exact Or.inl ⟨Or.inl (by omega), rfl, rfl⟩ | exact Or.inl ⟨Or.inr (by first | with_reducible assumption | assumption), rfl, rfl⟩ | exact Or.inr ⟨fun h => h.elim (by omega) (by first | with_reducible assumption | assumption), rfl, rfl⟩), by rw [ht]; exact hP9, hD9⟩, hS.F ht⟩) hS.2.2 dX11_nearer_209
set_option maxHeartbeats 4000000 in
set_option maxRecDepth 100000 in
theorem k_M_far_x (l : Launch) (dC : Nat → ClassId) (dI : Nat → Nat → Nat) (cI cZ cF : ClassId) (sz : Nat) (k0 : Nat) (a : Nat → Nat) (I0 : Nat → Int32) (J0 : Nat → Int64) (ft : Nat) (v : Int32) (w : Int32) (hft : I0 0 = nI ft) (h200 : ft ≤ 200) (hv : ¬ (0 ≤ v.toInt ∧ v.toInt < (ft : Int))) : zM l yX11_far cX11_far 9 (some .long) ({ frames := 2, cells := 0, slots := 0, locals := 42 } : Room) [.ref k0, .int v, .int w] (dC, dI) (zTy cI cZ cF) [(om k0 a I0 J0)] sz (some (.long (-1))) (fun A t => zPD (dC, dI) classes A [(om k0 a I0 J0)] t.heap) 0 0 := by
  refine zIn (own := "ScaleShopModel") (loc := [(0, .ref k0), (1, .int v), (2, .int w)]) rfl rfl rfl rfl (fun p e s m below meth c hx hb hr hts hown hlocks hml hnm9 A hA hS hP hD hK hXN Q9 hQ9 ls hl => ?_)
  refine lv_aload_n hx hb dX11_far_0 rfl (lv_at hl 0 rfl) ?_
  refine lv_iload_n hx hb dX11_far_1 rfl (lv_at hl 1 rfl) ?_
  obtain ⟨hPc, hDc, hFc, hI1⟩ := zi_sub (wc := [_]) hP hD hS hA [0] rfl rfl
  refine zcall (st1 := [.int 0]) (va_runV (As := [.int v]) (rest := []) ⟨hx, hb, hml, hown, hts⟩ (k_M_is_x l dC dI cI cZ cF s.heap.size k0 a I0 J0 ft v (by first | with_reducible assumption | assumption) (by first | with_reducible assumption | omega) (by first | with_reducible assumption | assumption)) (csV_179 hts rfl rfl ⟨Nat.le_of_ble_eq_true rfl, Nat.le_of_ble_eq_true rfl⟩) (zPV2 (q0 := 0) (ci := 9) hPc hDc hK hXN rfl rfl) rfl rfl hl.1 rfl (lv_room (Nat.le_of_ble_eq_true rfl)) dX11_far_2 ⟨Nat.le_of_ble_eq_true rfl, Nat.le_of_ble_eq_true rfl⟩) hS hFc hFc rfl (fun t H locs ht hB hk1 hS => ?_)
  obtain ⟨hP1, hD1⟩ := hB
  rw [ht] at hP1
  replace hP := z0 hP hD hk1 hP1 hI1
  clear hk1 hPc hDc hFc hP1 hD1 ht hI1
  refine lv_if_eq (tgt := 17) hx hb dX11_far_5 rfl (fun c_1 => ?_) (fun c_1 => ?_)
  · refine lv_ldc2 hx hb hown (hts _ mw_1620) dX11_far_17 ?_
    obtain ⟨hP9, hD9⟩ := zu_sub (wc := [_]) hP hD [true] rfl rfl
    rw [hQ9]
    exact W.lret (v := (-1)) hx hb hr (fun t ht hW => ⟨⟨rfl, by rw [ht]; exact hP9, hD9⟩, hS.F ht⟩) hS.2.2 dX11_far_20
  · exact absurd (by decide) c_1
set_option maxHeartbeats 4000000 in
set_option maxRecDepth 100000 in
theorem k_M_far_r (l : Launch) (dC : Nat → ClassId) (dI : Nat → Nat → Nat) (cI cZ cF : ClassId) (sz : Nat) (k0 : Nat) (a : Nat → Nat) (I0 : Nat → Int32) (J0 : Nat → Int64) (f : Nat) (ft : Nat) (w : Int32) (st : Nat → Int32) (tn : Nat → Int32) (hft : I0 0 = nI ft) (h200 : ft ≤ 200) (hf_t : f < ft) (hbad : ¬ (lvF ft st tn f ∧ 0 ≤ w.toInt ∧ w.toInt ≤ 1)) : zM l yX11_far cX11_far 9 (some .long) ({ frames := 2, cells := 0, slots := 0, locals := 42 } : Room) [.ref k0, .int (nI f), .int w] (dC, dI) (zTy cI cZ cF) [(om k0 a I0 J0), (oa (a 5) cI 201 st), (oa (a 6) cZ 201 tn)] sz (some (.long (-1))) (fun A t => zPD (dC, dI) classes A [(om k0 a I0 J0), (oa (a 5) cI 201 st), (oa (a 6) cZ 201 tn)] t.heap) 0 0 := by
  refine zIn (own := "ScaleShopModel") (loc := [(0, .ref k0), (1, .int (nI f)), (2, .int w)]) rfl rfl rfl rfl (fun p e s m below meth c hx hb hr hts hown hlocks hml hnm9 A hA hS hP hD hK hXN Q9 hQ9 ls hl => ?_)
  refine lv_aload_n hx hb dX11_far_0 rfl (lv_at hl 0 rfl) ?_
  refine lv_iload_n hx hb dX11_far_1 rfl (lv_at hl 1 rfl) ?_
  obtain ⟨hPc, hDc, hFc, hI1⟩ := zi_sub (wc := [_, _, _]) hP hD hS hA [0, 1, 2] rfl rfl
  refine zcall (st1 := [.int (pI (f < ft ∧ (st f).toInt = 1 ∧ (tn f).toInt = 0))]) (va_runV (As := [.int (nI f)]) (rest := []) ⟨hx, hb, hml, hown, hts⟩ (k_M_is_n l dC dI cI cZ cF s.heap.size k0 a I0 J0 f ft st tn (by first | with_reducible assumption | assumption) (by first | with_reducible assumption | omega) (by first | with_reducible assumption | omega)) (csV_179 hts rfl rfl ⟨Nat.le_of_ble_eq_true rfl, Nat.le_of_ble_eq_true rfl⟩) (zPV2 (q0 := 0) (ci := 9) hPc hDc hK hXN rfl rfl) rfl rfl hl.1 rfl (lv_room (Nat.le_of_ble_eq_true rfl)) dX11_far_2 ⟨Nat.le_of_ble_eq_true rfl, Nat.le_of_ble_eq_true rfl⟩) hS hFc hFc rfl (fun t H locs ht hB hk1 hS => ?_)
  obtain ⟨hP1, hD1⟩ := hB
  rw [ht] at hP1
  replace hP := z0 hP hD hk1 hP1 hI1
  clear hk1 hPc hDc hFc hP1 hD1 ht hI1
  refine lv_if_eq (tgt := 17) hx hb dX11_far_5 rfl (fun c_1 => ?_) (fun c_1 => ?_)
  · have c_1 : ¬ (f < ft ∧ (st f).toInt = 1 ∧ (tn f).toInt = 0) := zp_0 c_1
    refine lv_ldc2 hx hb hown (hts _ mw_1620) dX11_far_17 ?_
    obtain ⟨hP9, hD9⟩ := zu_sub (wc := [_, _, _]) hP hD [true, true, true] rfl rfl
    rw [hQ9]
    exact W.lret (v := (-1)) hx hb hr (fun t ht hW => ⟨⟨rfl, by rw [ht]; exact hP9, hD9⟩, hS.F ht⟩) hS.2.2 dX11_far_20
  · have c_1 : f < ft ∧ (st f).toInt = 1 ∧ (tn f).toInt = 0 := zp_1 c_1
    refine lv_iload_n hx hb dX11_far_8 rfl (lv_at hl 2 rfl) ?_
    refine lv_if_lt (tgt := 17) hx hb dX11_far_9 rfl (fun c_2 => ?_) (fun c_2 => ?_)
    · have c_2 : w.toInt < 0 := zc_lt rfl rfl c_2
      refine lv_ldc2 hx hb hown (hts _ mw_1620) dX11_far_17 ?_
      obtain ⟨hP9, hD9⟩ := zu_sub (wc := [_, _, _]) hP hD [true, true, true] rfl rfl
      rw [hQ9]
      exact W.lret (v := (-1)) hx hb hr (fun t ht hW => ⟨⟨rfl, by rw [ht]; exact hP9, hD9⟩, hS.F ht⟩) hS.2.2 dX11_far_20
    · have c_2 : 0 ≤ w.toInt := zc_nlt rfl rfl c_2
      refine lv_iload_n hx hb dX11_far_12 rfl (lv_at hl 2 rfl) ?_
      refine lv_iconst (v := 1) hx hb dX11_far_13 rfl ?_
      refine lv_icmp_le (tgt := 21) hx hb dX11_far_14 rfl (fun c_3 => ?_) (fun c_3 => ?_)
      · have c_3 : w.toInt ≤ 1 := zc_le rfl rfl c_3
        exact absurd ⟨by assumption, by omega, by omega⟩ hbad
      · have c_3 : 1 < w.toInt := zc_nle rfl rfl c_3
        refine lv_ldc2 hx hb hown (hts _ mw_1620) dX11_far_17 ?_
        obtain ⟨hP9, hD9⟩ := zu_sub (wc := [_, _, _]) hP hD [true, true, true] rfl rfl
        rw [hQ9]
        exact W.lret (v := (-1)) hx hb hr (fun t ht hW => ⟨⟨rfl, by rw [ht]; exact hP9, hD9⟩, hS.F ht⟩) hS.2.2 dX11_far_20
set_option maxHeartbeats 4000000 in
set_option maxRecDepth 100000 in
theorem k_M_far_s (l : Launch) (dC : Nat → ClassId) (dI : Nat → Nat → Nat) (cI cZ cF : ClassId) (sz : Nat) (k0 : Nat) (a : Nat → Nat) (I0 : Nat → Int32) (J0 : Nat → Int64) (f : Nat) (ft : Nat) (ln : Nat) (cl : Nat) (w : Int32) (st : Nat → Int32) (tn : Nat → Int32) (kd : Nat → Int32) (mn : Nat → Int32) (cx : Nat → Int32) (cy : Nat → Int32) (S0 : Nat → Int32) (la : Nat → Int32) (lb : Nat → Int32) (lc : Nat → Int32) (ld : Nat → Int32) (hft : I0 0 = nI ft) (h200 : ft ≤ 200) (hwf : ∀ q, lvF ft st tn q → wfM mn cx cy q) (hln : I0 26 = nI ln) (hlc : ln ≤ 64 * cl) (hcl1 : 1 ≤ cl) (hclm : cl ≤ 1000000) (hf_t : f < ft) (hlv : lvF ft st tn f) (hw1 : 0 ≤ w.toInt ∧ w.toInt ≤ 1) (he_f : 1 ≤ eO (kd f).toInt (nN (mn f))) (hpl : ∀ j, j < ln → pl (lb j) ∧ pl (lc j)) : Met l yX11_far (.code yX11_far cX11_far 9 (some .long) :: ws0) ({ frames := 2, cells := 0, slots := 0, locals := 70 } : Room) (va_Pc [.ref k0, .int (nI f), .int w] (zPre (dC, dI) classes (zTy cI cZ cF) [(om k0 a I0 J0), (oa (a 5) cI 201 st), (oa (a 6) cZ 201 tn), (oa (a 1) cI 201 kd), (oa (a 11) cI 201 mn), (oa (a 12) cI 8040 cx), (oa (a 13) cI 8040 cy), (oa (a 32) cI 8 S0), (oa (a 22) cI (64 * cl) la), (oa (a 23) cI (64 * cl) lb), (oa (a 24) cI (64 * cl) lc), (oa (a 25) cI (64 * cl) ld)] sz zXN)) (zQe (fun v9 t => ∃ (zr : Int64), ∃ (u9 : Int64), ∃ (d9 : Int64), ∃ (S1 : Nat → Int32), v9 = (some (.long zr)) ∧ va_P (dC, dI) classes [(om k0 a I0 (vp_updL (vp_updL J0 48 u9) 49 d9)), (oa (a 5) cI 201 st), (oa (a 6) cZ 201 tn), (oa (a 1) cI 201 kd), (oa (a 11) cI 201 mn), (oa (a 12) cI 8040 cx), (oa (a 13) cI 8040 cy), (oa (a 32) cI 8 S1), (oa (a 22) cI (64 * cl) la), (oa (a 23) cI (64 * cl) lb), (oa (a 24) cI (64 * cl) lc), (oa (a 25) cI (64 * cl) ld)] t.heap ∧ va_D (va_A [(om k0 a I0 J0), (oa (a 5) cI 201 st), (oa (a 6) cZ 201 tn), (oa (a 1) cI 201 kd), (oa (a 11) cI 201 mn), (oa (a 12) cI 8040 cx), (oa (a 13) cI 8040 cy), (oa (a 32) cI 8 S0), (oa (a 22) cI (64 * cl) la), (oa (a 23) cI (64 * cl) lb), (oa (a 24) cI (64 * cl) lc), (oa (a 25) cI (64 * cl) ld)] sz) [(om k0 a I0 (vp_updL (vp_updL J0 48 u9) 49 d9)), (oa (a 5) cI 201 st), (oa (a 6) cZ 201 tn), (oa (a 1) cI 201 kd), (oa (a 11) cI 201 mn), (oa (a 12) cI 8040 cx), (oa (a 13) cI 8040 cy), (oa (a 32) cI 8 S1), (oa (a 22) cI (64 * cl) la), (oa (a 23) cI (64 * cl) lb), (oa (a 24) cI (64 * cl) lc), (oa (a 25) cI (64 * cl) ld)]) (va_A [(om k0 a I0 J0), (oa (a 5) cI 201 st), (oa (a 6) cZ 201 tn), (oa (a 1) cI 201 kd), (oa (a 11) cI 201 mn), (oa (a 12) cI 8040 cx), (oa (a 13) cI 8040 cy), (oa (a 32) cI 8 S0), (oa (a 22) cI (64 * cl) la), (oa (a 23) cI (64 * cl) lb), (oa (a 24) cI (64 * cl) lc), (oa (a 25) cI (64 * cl) ld)] sz)) 0 0 (va_A [(om k0 a I0 J0), (oa (a 5) cI 201 st), (oa (a 6) cZ 201 tn), (oa (a 1) cI 201 kd), (oa (a 11) cI 201 mn), (oa (a 12) cI 8040 cx), (oa (a 13) cI 8040 cy), (oa (a 32) cI 8 S0), (oa (a 22) cI (64 * cl) la), (oa (a 23) cI (64 * cl) lb), (oa (a 24) cI (64 * cl) lc), (oa (a 25) cI (64 * cl) ld)] sz) := by
  refine Met.ofW (cc := cX11_far) (maxL := 9) (ret := (some .long)) rfl rfl ?_
  intro p e s m args below meth c s₁ B hml hv
  obtain ⟨rfl, hsz, hP, hK, hD0, hXN⟩ := hv
  have hx := B.exec
  have hb := B.bytes
  have hr := B.returns
  have hts0 := atoms_spec (ws := .code yX11_far cX11_far 9 (some .long) :: ws0) B.pre
  have hts : ∀ w9 ∈ ws0, w9.before ([.ref k0, .int (nI f), .int w] : List Value).toArray s = true := fun w9 h => hts0 w9 (List.mem_cons_of_mem _ h)
  have hown : s.vm.findClass "ScaleShopModel" = some m.cls := findClass_of_methodNamed B.named
  have hlocks := B.notSynchronized
  subst hsz
  have hD := hD0.self (sz := s.heap.size)
  clear hD0
  generalize hAe : va_A [(om k0 a I0 J0), (oa (a 5) cI 201 st), (oa (a 6) cZ 201 tn), (oa (a 1) cI 201 kd), (oa (a 11) cI 201 mn), (oa (a 12) cI 8040 cx), (oa (a 13) cI 8040 cy), (oa (a 32) cI 8 S0), (oa (a 22) cI (64 * cl) la), (oa (a 23) cI (64 * cl) lb), (oa (a 24) cI (64 * cl) lc), (oa (a 25) cI (64 * cl) ld)] s.heap.size = A at hD ⊢
  have hA : ∀ q : Nat, s.heap.size ≤ q → A q := fun q h => by rw [← hAe]; exact Or.inr h
  clear hAe
  have hS : va_S A s.heap s.heap [] := va_S.rf
  have hP : va_P (dC, dI) classes [(om k0 a I0 J0), (oa (a 5) cI 201 st), (oa (a 6) cZ 201 tn), (oa (a 1) cI 201 kd), (oa (a 11) cI 201 mn), (oa (a 12) cI 8040 cx), (oa (a 13) cI 8040 cy), (oa (a 32) cI 8 S0), (oa (a 22) cI (64 * cl) la), (oa (a 23) cI (64 * cl) lb), (oa (a 24) cI (64 * cl) lc), (oa (a 25) cI (64 * cl) ld)] s.heap := hP
  obtain ⟨Q9, hQ9⟩ : ∃ Q9 : State → Prop, Q9 = MQ below (zQe (fun v9 t => ∃ (zr : Int64), ∃ (u9 : Int64), ∃ (d9 : Int64), ∃ (S1 : Nat → Int32), v9 = (some (.long zr)) ∧ va_P (dC, dI) classes [(om k0 a I0 (vp_updL (vp_updL J0 48 u9) 49 d9)), (oa (a 5) cI 201 st), (oa (a 6) cZ 201 tn), (oa (a 1) cI 201 kd), (oa (a 11) cI 201 mn), (oa (a 12) cI 8040 cx), (oa (a 13) cI 8040 cy), (oa (a 32) cI 8 S1), (oa (a 22) cI (64 * cl) la), (oa (a 23) cI (64 * cl) lb), (oa (a 24) cI (64 * cl) lc), (oa (a 25) cI (64 * cl) ld)] t.heap ∧ va_D A [(om k0 a I0 (vp_updL (vp_updL J0 48 u9) 49 d9)), (oa (a 5) cI 201 st), (oa (a 6) cZ 201 tn), (oa (a 1) cI 201 kd), (oa (a 11) cI 201 mn), (oa (a 12) cI 8040 cx), (oa (a 13) cI 8040 cy), (oa (a 32) cI 8 S1), (oa (a 22) cI (64 * cl) la), (oa (a 23) cI (64 * cl) lb), (oa (a 24) cI (64 * cl) lc), (oa (a 25) cI (64 * cl) ld)]) A) ([.ref k0, .int (nI f), .int w] : List Value).toArray s 0 0 A := ⟨_, rfl⟩
  rw [← hQ9]
  have hl := lv_entry ([.ref k0, .int (nI f), .int w]) (n := 9) (Nat.le_of_ble_eq_true rfl)
  rw [lg_entry_eq]
  generalize (lg_sl ([.ref k0, .int (nI f), .int w]) ++ List.replicate (9 - (lg_sl ([.ref k0, .int (nI f), .int w])).length) Slot.unset).toArray = ls at hl ⊢
  have hl : lv_has ls 9 [(0, .ref k0), (1, .int (nI f)), (2, .int w)] := hl
  have hw_ff := hwf f (by first | with_reducible assumption | assumption)
  have hm_ff := hw_ff.1
  have hn_ff := hw_ff.2.1
  have hp_ff := hw_ff.2.2
  have hee := eO_le (k := (kd f).toInt) hn_ff.1
  refine lv_aload_n hx hb dX11_far_0 rfl (lv_at hl 0 rfl) ?_
  refine lv_iload_n hx hb dX11_far_1 rfl (lv_at hl 1 rfl) ?_
  obtain ⟨hPc, hDc, hFc, hI1⟩ := zi_sub (wc := [_, _, _]) hP hD hS hA [0, 1, 2] rfl rfl
  refine zcall (st1 := [.int (pI (f < ft ∧ (st f).toInt = 1 ∧ (tn f).toInt = 0))]) (va_runV (As := [.int (nI f)]) (rest := []) ⟨hx, hb, hml, hown, hts⟩ (k_M_is_n l dC dI cI cZ cF s.heap.size k0 a I0 J0 f ft st tn (by first | with_reducible assumption | assumption) (by first | with_reducible assumption | omega) (by first | with_reducible assumption | omega)) (csV_179 hts rfl rfl ⟨Nat.le_of_ble_eq_true rfl, Nat.le_of_ble_eq_true rfl⟩) (zPV2 (q0 := 0) (ci := 9) hPc hDc hK hXN rfl rfl) rfl rfl hl.1 rfl (lv_room (Nat.le_of_ble_eq_true rfl)) dX11_far_2 ⟨Nat.le_of_ble_eq_true rfl, Nat.le_of_ble_eq_true rfl⟩) hS hFc hFc rfl (fun t H locs ht hB hk1 hS => ?_)
  obtain ⟨hP1, hD1⟩ := hB
  rw [ht] at hP1
  replace hP := z0 hP hD hk1 hP1 hI1
  clear hk1 hPc hDc hFc hP1 hD1 ht hI1
  refine lv_if_eq (tgt := 17) hx hb dX11_far_5 rfl (fun c_1 => ?_) (fun c_1 => ?_)
  · have c_1 : ¬ (f < ft ∧ (st f).toInt = 1 ∧ (tn f).toInt = 0) := zp_0 c_1
    exfalso; exact absurd hlv (by first | with_reducible assumption | assumption)
  · have c_1 : f < ft ∧ (st f).toInt = 1 ∧ (tn f).toInt = 0 := zp_1 c_1
    refine lv_iload_n hx hb dX11_far_8 rfl (lv_at hl 2 rfl) ?_
    refine lv_if_lt (tgt := 17) hx hb dX11_far_9 rfl (fun c_2 => ?_) (fun c_2 => ?_)
    · have c_2 : w.toInt < 0 := zc_lt rfl rfl c_2
      exfalso; omega
    · have c_2 : 0 ≤ w.toInt := zc_nlt rfl rfl c_2
      refine lv_iload_n hx hb dX11_far_12 rfl (lv_at hl 2 rfl) ?_
      refine lv_iconst (v := 1) hx hb dX11_far_13 rfl ?_
      refine lv_icmp_le (tgt := 21) hx hb dX11_far_14 rfl (fun c_3 => ?_) (fun c_3 => ?_)
      · have c_3 : w.toInt ≤ 1 := zc_le rfl rfl c_3
        refine lv_lconst (v := 0) hx hb dX11_far_21 rfl ?_
        refine zz_l (v := jI 0) (jI_0) ?_
        refine lv_lstore_n (lv' := [(3, .long (jI 0)), (0, .ref k0), (1, .int (nI f)), (2, .int w)]) hx hb dX11_far_22 rfl hl (Nat.le_of_ble_eq_true rfl) rfl (fun ls hl => ?_)
        refine lv_lconst (v := 1) hx hb dX11_far_23 rfl ?_
        refine zz_l (v := jI 1) (jI_1) ?_
        refine lv_lstore (lv' := [(5, .long (jI 1)), (3, .long (jI 0)), (0, .ref k0), (1, .int (nI f)), (2, .int w)]) hx hb dX11_far_24 hl (Nat.le_of_ble_eq_true rfl) rfl (fun ls hl => ?_)
        refine lv_iconst (v := 0) hx hb dX11_far_26 rfl ?_
        refine lv_istore (lv' := [(7, .int 0), (5, .long (jI 1)), (3, .long (jI 0)), (0, .ref k0), (1, .int (nI f)), (2, .int w)]) hx hb dX11_far_27 hl (Nat.le_of_ble_eq_true rfl) rfl (fun ls hl => ?_)
        have hl_29 : ∀ (n9 : Nat) (j9 : Nat) (ua : Int) (ub : Int) (u9 : Int64) (d9 : Int64) (S1 : Nat → Int32) (H : Heap) (locs : List Loc) (ls : Array Slot), ln - j9 < n9 → (j9 ≤ ln) → ((0 ≤ ua ∧ ua ≤ 4000000000000) ∧ (1 ≤ ub ∧ ub ≤ 2000000)) → va_P (dC, dI) classes [(om k0 a I0 (vp_updL (vp_updL J0 48 u9) 49 d9)), (oa (a 5) cI 201 st), (oa (a 6) cZ 201 tn), (oa (a 1) cI 201 kd), (oa (a 11) cI 201 mn), (oa (a 12) cI 8040 cx), (oa (a 13) cI 8040 cy), (oa (a 32) cI 8 S1), (oa (a 22) cI (64 * cl) la), (oa (a 23) cI (64 * cl) lb), (oa (a 24) cI (64 * cl) lc), (oa (a 25) cI (64 * cl) ld)] H → va_D A [(om k0 a I0 (vp_updL (vp_updL J0 48 u9) 49 d9)), (oa (a 5) cI 201 st), (oa (a 6) cZ 201 tn), (oa (a 1) cI 201 kd), (oa (a 11) cI 201 mn), (oa (a 12) cI 8040 cx), (oa (a 13) cI 8040 cy), (oa (a 32) cI 8 S1), (oa (a 22) cI (64 * cl) la), (oa (a 23) cI (64 * cl) lb), (oa (a 24) cI (64 * cl) lc), (oa (a 25) cI (64 * cl) ld)] → va_S A s.heap H locs → lv_has ls 9 [(7, .int (nI j9)), (5, .long (jI ub)), (3, .long (jI ua)), (0, .ref k0), (1, .int (nI f)), (2, .int w)] → W p l e ((headSpec (.code yX11_far cX11_far 9 (some .long) :: ws0) ({ frames := 2, cells := 0, slots := 0, locals := 70 } : Room)).room) s m ([.ref k0, .int (nI f), .int w] : List Value).toArray below meth c H locs 0 0 Q9 (F0 m 29 ls []) := by
          intro n9
          induction n9 with
          | zero => intro j9 ua ub u9 d9 S1 H locs ls hm; exact absurd hm (Nat.not_lt_zero _)
          | succ n9 ih_29 =>
            intro j9 ua ub u9 d9 S1 H locs ls hm hj9 hab hP hD hS hl
            refine lv_iload hx hb dX11_far_29 (lv_at hl 0 rfl) ?_
            refine lv_aload_n hx hb dX11_far_31 rfl (lv_at hl 3 rfl) ?_
            refine va_get (D := (dC, dI)) (ci := 9) (v := .int (I0 26)) (C := RX11) (T := TX11) (N := 55) hx hb hts inX11 hown hK hP 0 rfl rfl 26 (Nat.le_of_ble_eq_true rfl) (hts _ mw_1185) (fun _ h9 => h9) rfl dX11_far_32 ?_
            refine zz_i (v := nI ln) (hln) ?_
            have b9_5 : zlt (j9) := show j9 < 2147483648 by omega
            have b9_6 : zlt (ln) := show ln < 2147483648 by omega
            refine lv_icmp_ge (tgt := 161) hx hb dX11_far_35 rfl (fun c_4 => ?_) (fun c_4 => ?_)
            · have c_4 : ((ln : Nat) : Int) ≤ ((j9 : Nat) : Int) := zc_le (nI_toInt b9_6) (nI_toInt b9_5) c_4
              refine lv_aload_n hx hb dX11_far_161 rfl (lv_at hl 3 rfl) ?_
              refine lv_lload_n hx hb dX11_far_162 rfl (lv_at hl 2 rfl) ?_
              refine va_put (D := (dC, dI)) (ci := 9) (v := .long (jI ua)) (ty := .long) (C := RX11) (T := TX11) (N := 55) hx hb hts inX11 tyX11 tyX11_ok nmX11 hown hK hP hD hS 0 rfl rfl 48 (by decide) (hts _ mw_1207) (fun _ h9 => h9) rfl (by decide +kernel) rfl rfl (Nat.le_of_ble_eq_true rfl) dX11_far_163 (fun H locs hP hD hS => ?_)
              obtain ⟨hP, hD⟩ := zre (W2 := [(om k0 a I0 (vp_updL (vp_updL J0 48 (jI ua)) 49 d9)), _, _, _, _, _, _, _, _, _, _, _]) hP hD rfl
              refine lv_aload_n hx hb dX11_far_166 rfl (lv_at hl 3 rfl) ?_
              refine lv_lload hx hb dX11_far_167 (lv_at hl 1 rfl) ?_
              refine va_put (D := (dC, dI)) (ci := 9) (v := .long (jI ub)) (ty := .long) (C := RX11) (T := TX11) (N := 55) hx hb hts inX11 tyX11 tyX11_ok nmX11 hown hK hP hD hS 0 rfl rfl 49 (by decide) (hts _ mw_1208) (fun _ h9 => h9) rfl (by decide +kernel) rfl rfl (Nat.le_of_ble_eq_true rfl) dX11_far_169 (fun H locs hP hD hS => ?_)
              obtain ⟨hP, hD⟩ := zre (W2 := [(om k0 a I0 (vp_updL (vp_updL J0 48 (jI ua)) 49 (jI ub))), _, _, _, _, _, _, _, _, _, _, _]) hP hD rfl
              obtain ⟨un, hun⟩ : ∃ un : Nat, ua = ((un : Nat) : Int) := ⟨ua.toNat, by omega⟩
              obtain ⟨dd, hdd⟩ : ∃ dd : Nat, ub = ((dd : Nat) : Int) := ⟨ub.toNat, by omega⟩
              rw [hun, hdd] at hP hD
              refine lv_aload_n hx hb dX11_far_172 rfl (lv_at hl 3 rfl) ?_
              obtain ⟨hPc, hDc, hFc⟩ := zo_sub (wc := [_]) hP hD hS hA [0] rfl rfl
              refine zcall (st1 := []) (va_runV (As := []) (rest := []) ⟨hx, hb, hml, hown, hts⟩ (k_M_plainFraction l dC dI cI cZ cF H.size k0 a I0 (vp_updL (vp_updL J0 48 (jI ((un : Nat) : Int))) 49 (jI ((dd : Nat) : Int))) un dd (by first | with_reducible assumption | omega) (by first | with_reducible assumption | omega)) (csV_224 hts rfl rfl ⟨Nat.le_of_ble_eq_true rfl, Nat.le_of_ble_eq_true rfl⟩) (zPV2 (q0 := 0) (ci := 9) hPc hDc hK hXN rfl rfl) rfl rfl hl.1 rfl (lv_room (Nat.le_of_ble_eq_true rfl)) dX11_far_173 ⟨Nat.le_of_ble_eq_true rfl, Nat.le_of_ble_eq_true rfl⟩) hS hFc hFc rfl (fun t H locs ht hB hk1 hS => ?_)
              obtain ⟨hP1, hD1⟩ := hB
              rw [ht] at hP1
              obtain ⟨hP, hD⟩ := zn (W2 := [(om k0 a I0 (vp_updL (vp_updL J0 48 (jI ((un / Nat.gcd un dd : Nat) : Int))) 49 (jI ((dd / Nat.gcd un dd : Nat) : Int)))), _, _, _, _, _, _, _, _, _, _, _]) hP hD hk1 hFc hP1 hD1 [0] zl_171 zl_171 [0] (by decide +kernel) rfl rfl rfl rfl rfl
              clear hk1 hPc hDc hFc hP1 hD1 ht
              refine lv_iload_n hx hb dX11_far_176 rfl (lv_at hl 5 rfl) ?_
              refine lv_if_ne (tgt := 187) hx hb dX11_far_177 rfl (fun c_7 => ?_) (fun c_7 => ?_)
              · have c_7 : ¬ w.toInt = 0 := zc_ne rfl rfl c_7
                refine lv_aload_n hx hb dX11_far_187 rfl (lv_at hl 3 rfl) ?_
                refine va_get (D := (dC, dI)) (ci := 9) (v := .long (jI ((dd / Nat.gcd un dd : Nat) : Int))) (C := RX11) (T := TX11) (N := 55) hx hb hts inX11 hown hK hP 0 rfl rfl 49 (Nat.le_of_ble_eq_true rfl) (hts _ mw_1208) (fun _ h9 => h9) rfl dX11_far_188 ?_
                obtain ⟨hP9, hD9⟩ := zu_sub (wc := [_, _, _, _, _, _, _, _, _, _, _, _]) hP hD [true, true, true, true, true, true, true, true, true, true, true, true] rfl rfl
                rw [hQ9]
                exact W.lret (v := jI ((dd / Nat.gcd un dd : Nat) : Int)) hx hb hr (fun t ht hW => ⟨⟨_, rfl, (jI ((dd / Nat.gcd un dd : Nat) : Int)), (jI ((un / Nat.gcd un dd : Nat) : Int)), (jI ((dd / Nat.gcd un dd : Nat) : Int)), S1, rfl, by rw [ht]; exact hP9, hD9⟩, hS.F ht⟩) hS.2.2 dX11_far_191
              · have c_7 : w.toInt = 0 := zc_eq rfl rfl c_7
                refine lv_aload_n hx hb dX11_far_180 rfl (lv_at hl 3 rfl) ?_
                refine va_get (D := (dC, dI)) (ci := 9) (v := .long (jI ((un / Nat.gcd un dd : Nat) : Int))) (C := RX11) (T := TX11) (N := 55) hx hb hts inX11 hown hK hP 0 rfl rfl 48 (Nat.le_of_ble_eq_true rfl) (hts _ mw_1207) (fun _ h9 => h9) rfl dX11_far_181 ?_
                refine lv_goto (tgt := 191) hx hb dX11_far_184 rfl ?_
                obtain ⟨hP9, hD9⟩ := zu_sub (wc := [_, _, _, _, _, _, _, _, _, _, _, _]) hP hD [true, true, true, true, true, true, true, true, true, true, true, true] rfl rfl
                rw [hQ9]
                exact W.lret (v := jI ((un / Nat.gcd un dd : Nat) : Int)) hx hb hr (fun t ht hW => ⟨⟨_, rfl, (jI ((un / Nat.gcd un dd : Nat) : Int)), (jI ((un / Nat.gcd un dd : Nat) : Int)), (jI ((dd / Nat.gcd un dd : Nat) : Int)), S1, rfl, by rw [ht]; exact hP9, hD9⟩, hS.F ht⟩) hS.2.2 dX11_far_191
            · have c_4 : ((j9 : Nat) : Int) < ((ln : Nat) : Int) := zc_nle (nI_toInt b9_6) (nI_toInt b9_5) c_4
              refine lv_aload_n hx hb dX11_far_38 rfl (lv_at hl 3 rfl) ?_
              refine va_get (D := (dC, dI)) (ci := 9) (v := .ref (a 22)) (C := RX11) (T := TX11) (N := 55) hx hb hts inX11 hown hK hP 0 rfl rfl 22 (Nat.le_of_ble_eq_true rfl) (hts _ mw_1181) (fun _ h9 => h9) rfl dX11_far_39 ?_
              refine lv_iload hx hb dX11_far_42 (lv_at hl 0 rfl) ?_
              have b9_8 : j9 < (64 * cl) := by omega
              have b9_9 : zlt ((64 * cl)) := show (64 * cl) < 2147483648 by omega
              refine z_iald hx hb hK hP 8 0 rfl rfl (e := j9) rfl b9_8 b9_9 dX11_far_44 ?_
              refine lv_iload_n hx hb dX11_far_45 rfl (lv_at hl 4 rfl) ?_
              have b9_11 : zlt (f) := show f < 2147483648 by omega
              refine lv_icmp_ne (tgt := 155) hx hb dX11_far_46 rfl (fun c_10 => ?_) (fun c_10 => ?_)
              · have c_10 : ¬ (la j9).toInt = ((f : Nat) : Int) := zc_ne rfl (nI_toInt b9_11) c_10
                refine lv_iinc (v := nI (j9 + 1)) (lv' := [(7, .int (nI (j9 + 1))), (5, .long (jI ub)), (3, .long (jI ua)), (0, .ref k0), (1, .int (nI f)), (2, .int w)]) hx hb dX11_far_155 hl (k := 0) rfl (nI_add j9 1) (Nat.le_of_ble_eq_true rfl) rfl (fun ls hl => ?_)
                refine lv_goto (tgt := 29) hx hb dX11_far_158 rfl ?_
                exact ih_29 (j9 + 1) ua ub u9 d9 S1 H locs ls (by first | with_reducible assumption | omega) (by first | with_reducible assumption | omega) (by first | exact hab | (have h9 := hd1 (by first | with_reducible assumption | omega); omega)) hP hD hS (lv_sub hl [0, 1, 2, 3, 4, 5] rfl)
              · have c_10 : (la j9).toInt = ((f : Nat) : Int) := zc_eq rfl (nI_toInt b9_11) c_10
                refine lv_aload_n hx hb dX11_far_49 rfl (lv_at hl 3 rfl) ?_
                refine va_get (D := (dC, dI)) (ci := 9) (v := .ref (a 25)) (C := RX11) (T := TX11) (N := 55) hx hb hts inX11 hown hK hP 0 rfl rfl 25 (Nat.le_of_ble_eq_true rfl) (hts _ mw_1184) (fun _ h9 => h9) rfl dX11_far_50 ?_
                refine lv_iload hx hb dX11_far_53 (lv_at hl 0 rfl) ?_
                refine z_iald hx hb hK hP 11 0 rfl rfl (e := j9) rfl b9_8 b9_9 dX11_far_55 ?_
                refine lv_aload_n hx hb dX11_far_56 rfl (lv_at hl 3 rfl) ?_
                refine va_get (D := (dC, dI)) (ci := 9) (v := .int (I0 19)) (C := RX11) (T := TX11) (N := 55) hx hb hts inX11 hown hK hP 0 rfl rfl 19 (Nat.le_of_ble_eq_true rfl) (hts _ mw_1178) (fun _ h9 => h9) rfl dX11_far_57 ?_
                refine lv_icmp_le (tgt := 66) hx hb dX11_far_60 rfl (fun c_12 => ?_) (fun c_12 => ?_)
                · have c_12 : (ld j9).toInt ≤ (I0 19).toInt := zc_le rfl rfl c_12
                  refine lv_aload_n hx hb dX11_far_66 rfl (lv_at hl 3 rfl) ?_
                  refine lv_lconst (v := 0) hx hb dX11_far_67 rfl ?_
                  refine zz_l (v := jI 0) (jI_0) ?_
                  refine va_put (D := (dC, dI)) (ci := 9) (v := .long (jI 0)) (ty := .long) (C := RX11) (T := TX11) (N := 55) hx hb hts inX11 tyX11 tyX11_ok nmX11 hown hK hP hD hS 0 rfl rfl 48 (by decide) (hts _ mw_1207) (fun _ h9 => h9) rfl (by decide +kernel) rfl rfl (Nat.le_of_ble_eq_true rfl) dX11_far_68 (fun H locs hP hD hS => ?_)
                  obtain ⟨hP, hD⟩ := zre (W2 := [(om k0 a I0 (vp_updL (vp_updL J0 48 (jI 0)) 49 d9)), _, _, _, _, _, _, _, _, _, _, _]) hP hD rfl
                  refine lv_aload_n hx hb dX11_far_71 rfl (lv_at hl 3 rfl) ?_
                  refine lv_lconst (v := 0) hx hb dX11_far_72 rfl ?_
                  refine zz_l (v := jI 0) (jI_0) ?_
                  refine va_put (D := (dC, dI)) (ci := 9) (v := .long (jI 0)) (ty := .long) (C := RX11) (T := TX11) (N := 55) hx hb hts inX11 tyX11 tyX11_ok nmX11 hown hK hP hD hS 0 rfl rfl 49 (by decide) (hts _ mw_1208) (fun _ h9 => h9) rfl (by decide +kernel) rfl rfl (Nat.le_of_ble_eq_true rfl) dX11_far_73 (fun H locs hP hD hS => ?_)
                  obtain ⟨hP, hD⟩ := zre (W2 := [(om k0 a I0 (vp_updL (vp_updL J0 48 (jI 0)) 49 (jI 0))), _, _, _, _, _, _, _, _, _, _, _]) hP hD rfl
                  refine lv_iconst (v := 0) hx hb dX11_far_76 rfl ?_
                  refine lv_istore (lv' := [(8, .int 0), (7, .int (nI j9)), (5, .long (jI ub)), (3, .long (jI ua)), (0, .ref k0), (1, .int (nI f)), (2, .int w)]) hx hb dX11_far_77 hl (Nat.le_of_ble_eq_true rfl) rfl (fun ls hl => ?_)
                  have hl_79 : ∀ (n9 : Nat) (e9 : Nat) (u2 : Int) (d2 : Int) (S2 : Nat → Int32) (H : Heap) (locs : List Loc) (ls : Array Slot), eO (kd f).toInt (nN (mn f)) - e9 < n9 → (e9 ≤ eO (kd f).toInt (nN (mn f))) → ((0 ≤ u2 ∧ u2 ≤ 4000000000000) ∧ (0 ≤ d2 ∧ d2 ≤ 2000000)) → (0 < e9 → 1 ≤ d2) → va_P (dC, dI) classes [(om k0 a I0 (vp_updL (vp_updL J0 48 (jI u2)) 49 (jI d2))), (oa (a 5) cI 201 st), (oa (a 6) cZ 201 tn), (oa (a 1) cI 201 kd), (oa (a 11) cI 201 mn), (oa (a 12) cI 8040 cx), (oa (a 13) cI 8040 cy), (oa (a 32) cI 8 S2), (oa (a 22) cI (64 * cl) la), (oa (a 23) cI (64 * cl) lb), (oa (a 24) cI (64 * cl) lc), (oa (a 25) cI (64 * cl) ld)] H → va_D A [(om k0 a I0 (vp_updL (vp_updL J0 48 (jI u2)) 49 (jI d2))), (oa (a 5) cI 201 st), (oa (a 6) cZ 201 tn), (oa (a 1) cI 201 kd), (oa (a 11) cI 201 mn), (oa (a 12) cI 8040 cx), (oa (a 13) cI 8040 cy), (oa (a 32) cI 8 S2), (oa (a 22) cI (64 * cl) la), (oa (a 23) cI (64 * cl) lb), (oa (a 24) cI (64 * cl) lc), (oa (a 25) cI (64 * cl) ld)] → va_S A s.heap H locs → lv_has ls 9 [(8, .int (nI e9)), (7, .int (nI j9)), (5, .long (jI ub)), (3, .long (jI ua)), (0, .ref k0), (1, .int (nI f)), (2, .int w)] → W p l e ((headSpec (.code yX11_far cX11_far 9 (some .long) :: ws0) ({ frames := 2, cells := 0, slots := 0, locals := 70 } : Room)).room) s m ([.ref k0, .int (nI f), .int w] : List Value).toArray below meth c H locs 0 0 Q9 (F0 m 79 ls []) := by
                    intro n9
                    induction n9 with
                    | zero => intro e9 u2 d2 S2 H locs ls hm; exact absurd hm (Nat.not_lt_zero _)
                    | succ n9 ih_79 =>
                      intro e9 u2 d2 S2 H locs ls hm he9 hud2 hd1 hP hD hS hl
                      refine lv_iload hx hb dX11_far_79 (lv_at hl 0 rfl) ?_
                      refine lv_aload_n hx hb dX11_far_81 rfl (lv_at hl 4 rfl) ?_
                      refine lv_iload_n hx hb dX11_far_82 rfl (lv_at hl 5 rfl) ?_
                      obtain ⟨hPc, hDc, hFc, hI1⟩ := zi_sub (wc := [_, _, _]) hP hD hS hA [0, 3, 4] rfl rfl
                      refine zcall (st1 := [.int (nI (eO (kd f).toInt (nN (mn f)))), .int (nI e9)]) (va_runV (As := [.int (nI f)]) (rest := [.int (nI e9)]) ⟨hx, hb, hml, hown, hts⟩ (k_M_edgesOf l dC dI cI cZ cF H.size k0 a I0 (vp_updL (vp_updL J0 48 (jI u2)) 49 (jI d2)) f (nN (mn f)) kd mn (by first | with_reducible assumption | omega) (hm_ff) (hn_ff)) (csV_166 hts rfl rfl ⟨Nat.le_of_ble_eq_true rfl, Nat.le_of_ble_eq_true rfl⟩) (zPV2 (q0 := 0) (ci := 9) hPc hDc hK hXN rfl rfl) rfl rfl hl.1 rfl (lv_room (Nat.le_of_ble_eq_true rfl)) dX11_far_83 ⟨Nat.le_of_ble_eq_true rfl, Nat.le_of_ble_eq_true rfl⟩) hS hFc hFc rfl (fun t H locs ht hB hk1 hS => ?_)
                      obtain ⟨hP1, hD1⟩ := hB
                      rw [ht] at hP1
                      replace hP := z0 hP hD hk1 hP1 hI1
                      clear hk1 hPc hDc hFc hP1 hD1 ht hI1
                      have b9_14 : zlt (e9) := show e9 < 2147483648 by omega
                      have b9_15 : zlt ((eO (kd f).toInt (nN (mn f)))) := show (eO (kd f).toInt (nN (mn f))) < 2147483648 by omega
                      refine lv_icmp_ge (tgt := 126) hx hb dX11_far_86 rfl (fun c_13 => ?_) (fun c_13 => ?_)
                      · have c_13 : ((eO (kd f).toInt (nN (mn f)) : Nat) : Int) ≤ ((e9 : Nat) : Int) := zc_le (nI_toInt b9_15) (nI_toInt b9_14) c_13
                        refine lv_aload_n hx hb dX11_far_126 rfl (lv_at hl 4 rfl) ?_
                        refine lv_lload_n hx hb dX11_far_127 rfl (lv_at hl 3 rfl) ?_
                        refine lv_lload hx hb dX11_far_128 (lv_at hl 2 rfl) ?_
                        refine lv_aload_n hx hb dX11_far_130 rfl (lv_at hl 4 rfl) ?_
                        refine va_get (D := (dC, dI)) (ci := 9) (v := .long (jI u2)) (C := RX11) (T := TX11) (N := 55) hx hb hts inX11 hown hK hP 0 rfl rfl 48 (Nat.le_of_ble_eq_true rfl) (hts _ mw_1207) (fun _ h9 => h9) rfl dX11_far_131 ?_
                        refine lv_aload_n hx hb dX11_far_134 rfl (lv_at hl 4 rfl) ?_
                        refine va_get (D := (dC, dI)) (ci := 9) (v := .long (jI d2)) (C := RX11) (T := TX11) (N := 55) hx hb hts inX11 hown hK hP 0 rfl rfl 49 (Nat.le_of_ble_eq_true rfl) (hts _ mw_1208) (fun _ h9 => h9) rfl dX11_far_135 ?_
                        obtain ⟨hPc, hDc, hFc, hI1⟩ := zi_sub (wc := [_]) hP hD hS hA [0] rfl rfl
                        refine zcall (st1 := [.int (pI (ua * d2 < u2 * ub))]) (va_runV (As := [.long (jI ua), .long (jI ub), .long (jI u2), .long (jI d2)]) (rest := []) ⟨hx, hb, hml, hown, hts⟩ (k_M_isLess l dC dI cI cZ cF H.size k0 a I0 (vp_updL (vp_updL J0 48 (jI u2)) 49 (jI d2)) ua ub u2 d2 (prN hab.1 hud2.2) (prN hud2.1 ⟨by omega, hab.2.2⟩) (by first | with_reducible assumption | omega) (by first | with_reducible assumption | omega) (by first | with_reducible assumption | omega) (by first | with_reducible assumption | omega)) (csV_217 hts rfl rfl ⟨Nat.le_of_ble_eq_true rfl, Nat.le_of_ble_eq_true rfl⟩) (zPV2 (q0 := 0) (ci := 9) hPc hDc hK hXN rfl rfl) rfl rfl hl.1 rfl (lv_room (Nat.le_of_ble_eq_true rfl)) dX11_far_138 ⟨Nat.le_of_ble_eq_true rfl, Nat.le_of_ble_eq_true rfl⟩) hS hFc hFc rfl (fun t H locs ht hB hk1 hS => ?_)
                        obtain ⟨hP1, hD1⟩ := hB
                        rw [ht] at hP1
                        replace hP := z0 hP hD hk1 hP1 hI1
                        clear hk1 hPc hDc hFc hP1 hD1 ht hI1
                        refine lv_if_eq (tgt := 155) hx hb dX11_far_141 rfl (fun c_16 => ?_) (fun c_16 => ?_)
                        · have c_16 : ¬ (ua * d2 < u2 * ub) := zp_0 c_16
                          refine lv_iinc (v := nI (j9 + 1)) (lv' := [(7, .int (nI (j9 + 1))), (8, .int (nI e9)), (5, .long (jI ub)), (3, .long (jI ua)), (0, .ref k0), (1, .int (nI f)), (2, .int w)]) hx hb dX11_far_155 hl (k := 1) rfl (nI_add j9 1) (Nat.le_of_ble_eq_true rfl) rfl (fun ls hl => ?_)
                          refine lv_goto (tgt := 29) hx hb dX11_far_158 rfl ?_
                          exact ih_29 (j9 + 1) ua ub (jI u2) (jI d2) S2 H locs ls (by first | with_reducible assumption | omega) (by first | with_reducible assumption | omega) (by first | exact hab | (have h9 := hd1 (by first | with_reducible assumption | omega); omega)) hP hD hS (lv_sub hl [0, 2, 3, 4, 5, 6] rfl)
                        · have c_16 : ua * d2 < u2 * ub := zp_1 c_16
                          refine lv_aload_n hx hb dX11_far_144 rfl (lv_at hl 4 rfl) ?_
                          refine va_get (D := (dC, dI)) (ci := 9) (v := .long (jI u2)) (C := RX11) (T := TX11) (N := 55) hx hb hts inX11 hown hK hP 0 rfl rfl 48 (Nat.le_of_ble_eq_true rfl) (hts _ mw_1207) (fun _ h9 => h9) rfl dX11_far_145 ?_
                          refine lv_lstore_n (lv' := [(3, .long (jI u2)), (8, .int (nI e9)), (7, .int (nI j9)), (5, .long (jI ub)), (0, .ref k0), (1, .int (nI f)), (2, .int w)]) hx hb dX11_far_148 rfl hl (Nat.le_of_ble_eq_true rfl) rfl (fun ls hl => ?_)
                          refine lv_aload_n hx hb dX11_far_149 rfl (lv_at hl 4 rfl) ?_
                          refine va_get (D := (dC, dI)) (ci := 9) (v := .long (jI d2)) (C := RX11) (T := TX11) (N := 55) hx hb hts inX11 hown hK hP 0 rfl rfl 49 (Nat.le_of_ble_eq_true rfl) (hts _ mw_1208) (fun _ h9 => h9) rfl dX11_far_150 ?_
                          refine lv_lstore (lv' := [(5, .long (jI d2)), (3, .long (jI u2)), (8, .int (nI e9)), (7, .int (nI j9)), (0, .ref k0), (1, .int (nI f)), (2, .int w)]) hx hb dX11_far_153 hl (Nat.le_of_ble_eq_true rfl) rfl (fun ls hl => ?_)
                          refine lv_iinc (v := nI (j9 + 1)) (lv' := [(7, .int (nI (j9 + 1))), (5, .long (jI d2)), (3, .long (jI u2)), (8, .int (nI e9)), (0, .ref k0), (1, .int (nI f)), (2, .int w)]) hx hb dX11_far_155 hl (k := 3) rfl (nI_add j9 1) (Nat.le_of_ble_eq_true rfl) rfl (fun ls hl => ?_)
                          refine lv_goto (tgt := 29) hx hb dX11_far_158 rfl ?_
                          exact ih_29 (j9 + 1) u2 d2 (jI u2) (jI d2) S2 H locs ls (by first | with_reducible assumption | omega) (by first | with_reducible assumption | omega) (by first | exact hab | (have h9 := hd1 (by first | with_reducible assumption | omega); omega)) hP hD hS (lv_sub hl [0, 1, 2, 4, 5, 6] rfl)
                      · have c_13 : ((e9 : Nat) : Int) < ((eO (kd f).toInt (nN (mn f)) : Nat) : Int) := zc_nle (nI_toInt b9_15) (nI_toInt b9_14) c_13
                        have hi9 : e9 < nN (mn f) := (by omega)
                        have hnx := nxt_lt (n := nN (mn f)) (i := e9) (by omega)
                        refine lv_aload_n hx hb dX11_far_89 rfl (lv_at hl 4 rfl) ?_
                        refine lv_iload_n hx hb dX11_far_90 rfl (lv_at hl 5 rfl) ?_
                        refine lv_iload hx hb dX11_far_91 (lv_at hl 0 rfl) ?_
                        refine lv_iconst (v := 0) hx hb dX11_far_93 rfl ?_
                        obtain ⟨hPc, hDc, hFc⟩ := zo_sub (wc := [_, _, _, _, _]) hP hD hS hA [0, 4, 5, 6, 7] (by decide +kernel) rfl
                        refine zcall (st1 := []) (va_runV (As := [.int (nI f), .int (nI e9), .int 0]) (rest := []) ⟨hx, hb, hml, hown, hts⟩ (k_M_edge l dC dI cI cZ cF H.size k0 a I0 (vp_updL (vp_updL J0 48 (jI u2)) 49 (jI d2)) f (nN (mn f)) e9 0 mn cx cy S2 (by first | with_reducible assumption | omega) (hm_ff) (hn_ff) (by first | with_reducible assumption | omega) (by first | with_reducible assumption | omega)) (csV_167 hts rfl rfl ⟨Nat.le_of_ble_eq_true rfl, Nat.le_of_ble_eq_true rfl⟩) (zPV2 (q0 := 0) (ci := 9) hPc hDc hK hXN rfl rfl) rfl rfl hl.1 rfl (lv_room (Nat.le_of_ble_eq_true rfl)) dX11_far_94 ⟨Nat.le_of_ble_eq_true rfl, Nat.le_of_ble_eq_true rfl⟩) hS hFc hFc rfl (fun t H locs ht hB hk1 hS => ?_)
                        obtain ⟨S3, t0, t1, t2, t3, tr, hP1, hD1⟩ := hB
                        rw [ht] at hP1
                        obtain ⟨hP, hD⟩ := zn (W2 := [_, _, _, _, _, _, _, (oa (a 32) cI 8 S3), _, _, _, _]) hP hD hk1 hFc hP1 hD1 [0, 4, 5, 6, 7] zl_271 zl_271 [0, 4, 5, 6, 7] (by decide +kernel) rfl rfl rfl rfl rfl
                        clear hk1 hPc hDc hFc hP1 hD1 ht
                        have v0 : S3 0 = cF40 cx f e9 := t0
                        have v1 : S3 1 = cF40 cy f e9 := t1
                        have v2 : S3 2 = cF40 cx f (nxt (nN (mn f)) e9) := t2
                        have v3 : S3 3 = cF40 cy f (nxt (nN (mn f)) e9) := t3
                        have hs3 : ∀ k, 0 ≤ k → k < 0 + 4 → pl (S3 k) := fun k _ hk => (by rcases (show k = 0 ∨ k = 1 ∨ k = 2 ∨ k = 3 by omega) with h | h | h | h <;> rw [h]; (rw [v0]; exact (hp_ff e9 hi9).1); (rw [v1]; exact (hp_ff e9 hi9).2); (rw [v2]; exact (hp_ff _ hnx).1); (rw [v3]; exact (hp_ff _ hnx).2))
                        refine lv_aload_n hx hb dX11_far_97 rfl (lv_at hl 4 rfl) ?_
                        refine lv_aload_n hx hb dX11_far_98 rfl (lv_at hl 4 rfl) ?_
                        refine va_get (D := (dC, dI)) (ci := 9) (v := .ref (a 32)) (C := RX11) (T := TX11) (N := 55) hx hb hts inX11 hown hK hP 0 rfl rfl 32 (Nat.le_of_ble_eq_true rfl) (hts _ mw_1191) (fun _ h9 => h9) rfl dX11_far_99 ?_
                        refine lv_aload_n hx hb dX11_far_102 rfl (lv_at hl 4 rfl) ?_
                        refine va_get (D := (dC, dI)) (ci := 9) (v := .ref (a 23)) (C := RX11) (T := TX11) (N := 55) hx hb hts inX11 hown hK hP 0 rfl rfl 23 (Nat.le_of_ble_eq_true rfl) (hts _ mw_1182) (fun _ h9 => h9) rfl dX11_far_103 ?_
                        refine lv_iload hx hb dX11_far_106 (lv_at hl 1 rfl) ?_
                        refine z_iald hx hb hK hP 9 0 rfl rfl (e := j9) rfl b9_8 b9_9 dX11_far_108 ?_
                        refine lv_aload_n hx hb dX11_far_109 rfl (lv_at hl 4 rfl) ?_
                        refine va_get (D := (dC, dI)) (ci := 9) (v := .ref (a 24)) (C := RX11) (T := TX11) (N := 55) hx hb hts inX11 hown hK hP 0 rfl rfl 24 (Nat.le_of_ble_eq_true rfl) (hts _ mw_1183) (fun _ h9 => h9) rfl dX11_far_110 ?_
                        refine lv_iload hx hb dX11_far_113 (lv_at hl 1 rfl) ?_
                        refine z_iald hx hb hK hP 10 0 rfl rfl (e := j9) rfl b9_8 b9_9 dX11_far_115 ?_
                        refine lv_iconst (v := 0) hx hb dX11_far_116 rfl ?_
                        obtain ⟨hPc, hDc, hFc⟩ := zo_sub (wc := [_, _]) hP hD hS hA [0, 7] rfl rfl
                        refine zcall (st1 := []) (va_runV (As := [.ref (a 32), .int (lb j9), .int (lc j9), .int 0]) (rest := []) ⟨hx, hb, hml, hown, hts⟩ (k_M_nearer_q l dC dI cI cZ cF H.size k0 a I0 (vp_updL (vp_updL J0 48 (jI u2)) 49 (jI d2)) 0 (lb j9) (lc j9) u2 d2 S3 (by first | with_reducible assumption | omega) (hs3) ((hpl j9 (by first | with_reducible assumption | omega)).1) ((hpl j9 (by first | with_reducible assumption | omega)).2) (hud2.1) (hud2.2)) (csV_225 hts rfl rfl ⟨Nat.le_of_ble_eq_true rfl, Nat.le_of_ble_eq_true rfl⟩) (zPV2 (q0 := 0) (ci := 9) hPc hDc hK hXN rfl rfl) rfl rfl hl.1 rfl (lv_room (Nat.le_of_ble_eq_true rfl)) dX11_far_117 ⟨Nat.le_of_ble_eq_true rfl, Nat.le_of_ble_eq_true rfl⟩) hS hFc hFc rfl (fun t H locs ht hB hk1 hS => ?_)
                        obtain ⟨zu1, zd1, hnd1, hP1, hD1⟩ := hB
                        rw [ht] at hP1
                        obtain ⟨hP, hD⟩ := zn (W2 := [(om k0 a I0 (vp_updL (vp_updL J0 48 (jI zu1)) 49 (jI zd1))), _, _, _, _, _, _, _, _, _, _, _]) hP hD hk1 hFc hP1 hD1 [0, 7] zl_272 zl_272 [0, 7] (by decide +kernel) rfl rfl rfl rfl rfl
                        clear hk1 hPc hDc hFc hP1 hD1 ht
                        have hx1 : ndP u2 d2 (nrU (S3 0).toInt (S3 1).toInt (S3 2).toInt (S3 3).toInt (lb j9).toInt (lc j9).toInt) (nrD (S3 0).toInt (S3 1).toInt (S3 2).toInt (S3 3).toInt (lb j9).toInt (lc j9).toInt) zu1 zd1 := hnd1
                        have hUb9 := nrU_b (hs3 0 (by omega) (by omega)) (hs3 1 (by omega) (by omega)) (hs3 2 (by omega) (by omega)) (hs3 3 (by omega) (by omega)) (hpl j9 (by omega)).1 (hpl j9 (by omega)).2
                        have hb1 := ndP_b hud2.1 hud2.2 hUb9 hx1
                        have hz1 : 1 ≤ zd1 := (by unfold ndP at hx1; rcases hx1 with h9 | h9 <;> omega)
                        refine lv_iinc (v := nI (e9 + 1)) (lv' := [(8, .int (nI (e9 + 1))), (7, .int (nI j9)), (5, .long (jI ub)), (3, .long (jI ua)), (0, .ref k0), (1, .int (nI f)), (2, .int w)]) hx hb dX11_far_120 hl (k := 0) rfl (nI_add e9 1) (Nat.le_of_ble_eq_true rfl) rfl (fun ls hl => ?_)
                        refine lv_goto (tgt := 79) hx hb dX11_far_123 rfl ?_
                        exact ih_79 (e9 + 1) zu1 zd1 S3 H locs ls (by first | with_reducible assumption | omega) (by first | with_reducible assumption | omega) (hb1) (fun _ => hz1) hP hD hS (lv_sub hl [0, 1, 2, 3, 4, 5, 6] rfl)
                  exact hl_79 _ 0 0 0 S1 H locs ls (Nat.lt_succ_self _) (by first | with_reducible assumption | omega) (by first | with_reducible assumption | omega) (by first | with_reducible assumption | omega) hP hD hS (lv_sub hl [0, 1, 2, 3, 4, 5, 6] rfl)
                · have c_12 : (I0 19).toInt < (ld j9).toInt := zc_nle rfl rfl c_12
                  refine lv_goto (tgt := 155) hx hb dX11_far_63 rfl ?_
                  refine lv_iinc (v := nI (j9 + 1)) (lv' := [(7, .int (nI (j9 + 1))), (5, .long (jI ub)), (3, .long (jI ua)), (0, .ref k0), (1, .int (nI f)), (2, .int w)]) hx hb dX11_far_155 hl (k := 0) rfl (nI_add j9 1) (Nat.le_of_ble_eq_true rfl) rfl (fun ls hl => ?_)
                  refine lv_goto (tgt := 29) hx hb dX11_far_158 rfl ?_
                  exact ih_29 (j9 + 1) ua ub u9 d9 S1 H locs ls (by first | with_reducible assumption | omega) (by first | with_reducible assumption | omega) (by first | exact hab | (have h9 := hd1 (by first | with_reducible assumption | omega); omega)) hP hD hS (lv_sub hl [0, 1, 2, 3, 4, 5] rfl)
        exact hl_29 _ 0 0 1 (J0 48) (J0 49) S0 H locs ls (Nat.lt_succ_self _) (by first | with_reducible assumption | omega) (by first | with_reducible assumption | omega) hP hD hS (lv_sub hl [0, 1, 2, 3, 4, 5] rfl)
      · have c_3 : 1 < w.toInt := zc_nle rfl rfl c_3
        exfalso; omega
end
section
set_option maxHeartbeats 4000000 in
set_option maxRecDepth 100000 in
theorem k_M_told_a (l : Launch) (dC : Nat → ClassId) (dI : Nat → Nat → Nat) (cI cZ cF : ClassId) (sz : Nat) (k0 : Nat) (a : Nat → Nat) (I0 : Nat → Int32) (J0 : Nat → Int64) (f : Nat) (ft : Nat) (w : Int32) (kd : Nat → Int32) (rk : Nat → Int32) (wd : Nat → Int32) (tw : Nat → Int32) (mn : Nat → Int32) (st : Nat → Int32) (tn : Nat → Int32) (gb : Nat → Int32) (pa : Nat → Int32) (pb : Nat → Int32) (it : Nat → Int32) (hft : I0 0 = nI ft) (h200 : ft ≤ 200) (hf_t : f < ft) : Met l yX11_told (.code yX11_told cX11_told 3 (some .int) :: ws0) ({ frames := 1, cells := 0, slots := 0, locals := 21 } : Room) (va_Pc [.ref k0, .int (nI f), .int w] (zPre (dC, dI) classes (zTy cI cZ cF) [(om k0 a I0 J0), (oa (a 1) cI 201 kd), (oa (a 2) cI 201 rk), (oa (a 3) cI 201 wd), (oa (a 4) cI 201 tw), (oa (a 11) cI 201 mn), (oa (a 5) cI 201 st), (oa (a 6) cZ 201 tn), (oa (a 7) cI 201 gb), (oa (a 8) cI 201 pa), (oa (a 9) cI 201 pb), (oa (a 10) cI 201 it)] sz zXN)) (zQe (fun v9 t => ∃ (b9 : Int32), v9 = (some (.int b9)) ∧ va_P (dC, dI) classes [(om k0 a I0 J0), (oa (a 1) cI 201 kd), (oa (a 2) cI 201 rk), (oa (a 3) cI 201 wd), (oa (a 4) cI 201 tw), (oa (a 11) cI 201 mn), (oa (a 5) cI 201 st), (oa (a 6) cZ 201 tn), (oa (a 7) cI 201 gb), (oa (a 8) cI 201 pa), (oa (a 9) cI 201 pb), (oa (a 10) cI 201 it)] t.heap ∧ va_D (va_A [(om k0 a I0 J0), (oa (a 1) cI 201 kd), (oa (a 2) cI 201 rk), (oa (a 3) cI 201 wd), (oa (a 4) cI 201 tw), (oa (a 11) cI 201 mn), (oa (a 5) cI 201 st), (oa (a 6) cZ 201 tn), (oa (a 7) cI 201 gb), (oa (a 8) cI 201 pa), (oa (a 9) cI 201 pb), (oa (a 10) cI 201 it)] sz) [(om k0 a I0 J0), (oa (a 1) cI 201 kd), (oa (a 2) cI 201 rk), (oa (a 3) cI 201 wd), (oa (a 4) cI 201 tw), (oa (a 11) cI 201 mn), (oa (a 5) cI 201 st), (oa (a 6) cZ 201 tn), (oa (a 7) cI 201 gb), (oa (a 8) cI 201 pa), (oa (a 9) cI 201 pb), (oa (a 10) cI 201 it)]) (va_A [(om k0 a I0 J0), (oa (a 1) cI 201 kd), (oa (a 2) cI 201 rk), (oa (a 3) cI 201 wd), (oa (a 4) cI 201 tw), (oa (a 11) cI 201 mn), (oa (a 5) cI 201 st), (oa (a 6) cZ 201 tn), (oa (a 7) cI 201 gb), (oa (a 8) cI 201 pa), (oa (a 9) cI 201 pb), (oa (a 10) cI 201 it)] sz)) 0 0 (va_A [(om k0 a I0 J0), (oa (a 1) cI 201 kd), (oa (a 2) cI 201 rk), (oa (a 3) cI 201 wd), (oa (a 4) cI 201 tw), (oa (a 11) cI 201 mn), (oa (a 5) cI 201 st), (oa (a 6) cZ 201 tn), (oa (a 7) cI 201 gb), (oa (a 8) cI 201 pa), (oa (a 9) cI 201 pb), (oa (a 10) cI 201 it)] sz) := by
  refine Met.ofW (cc := cX11_told) (maxL := 3) (ret := (some .int)) rfl rfl ?_
  intro p e s m args below meth c s₁ B hml hv
  obtain ⟨rfl, hsz, hP, hK, hD0, hXN⟩ := hv
  have hx := B.exec
  have hb := B.bytes
  have hr := B.returns
  have hts0 := atoms_spec (ws := .code yX11_told cX11_told 3 (some .int) :: ws0) B.pre
  have hts : ∀ w9 ∈ ws0, w9.before ([.ref k0, .int (nI f), .int w] : List Value).toArray s = true := fun w9 h => hts0 w9 (List.mem_cons_of_mem _ h)
  have hown : s.vm.findClass "ScaleShopModel" = some m.cls := findClass_of_methodNamed B.named
  have hlocks := B.notSynchronized
  subst hsz
  have hD := hD0.self (sz := s.heap.size)
  clear hD0
  generalize hAe : va_A [(om k0 a I0 J0), (oa (a 1) cI 201 kd), (oa (a 2) cI 201 rk), (oa (a 3) cI 201 wd), (oa (a 4) cI 201 tw), (oa (a 11) cI 201 mn), (oa (a 5) cI 201 st), (oa (a 6) cZ 201 tn), (oa (a 7) cI 201 gb), (oa (a 8) cI 201 pa), (oa (a 9) cI 201 pb), (oa (a 10) cI 201 it)] s.heap.size = A at hD ⊢
  have hA : ∀ q : Nat, s.heap.size ≤ q → A q := fun q h => by rw [← hAe]; exact Or.inr h
  clear hAe
  have hS : va_S A s.heap s.heap [] := va_S.rf
  have hP : va_P (dC, dI) classes [(om k0 a I0 J0), (oa (a 1) cI 201 kd), (oa (a 2) cI 201 rk), (oa (a 3) cI 201 wd), (oa (a 4) cI 201 tw), (oa (a 11) cI 201 mn), (oa (a 5) cI 201 st), (oa (a 6) cZ 201 tn), (oa (a 7) cI 201 gb), (oa (a 8) cI 201 pa), (oa (a 9) cI 201 pb), (oa (a 10) cI 201 it)] s.heap := hP
  obtain ⟨Q9, hQ9⟩ : ∃ Q9 : State → Prop, Q9 = MQ below (zQe (fun v9 t => ∃ (b9 : Int32), v9 = (some (.int b9)) ∧ va_P (dC, dI) classes [(om k0 a I0 J0), (oa (a 1) cI 201 kd), (oa (a 2) cI 201 rk), (oa (a 3) cI 201 wd), (oa (a 4) cI 201 tw), (oa (a 11) cI 201 mn), (oa (a 5) cI 201 st), (oa (a 6) cZ 201 tn), (oa (a 7) cI 201 gb), (oa (a 8) cI 201 pa), (oa (a 9) cI 201 pb), (oa (a 10) cI 201 it)] t.heap ∧ va_D A [(om k0 a I0 J0), (oa (a 1) cI 201 kd), (oa (a 2) cI 201 rk), (oa (a 3) cI 201 wd), (oa (a 4) cI 201 tw), (oa (a 11) cI 201 mn), (oa (a 5) cI 201 st), (oa (a 6) cZ 201 tn), (oa (a 7) cI 201 gb), (oa (a 8) cI 201 pa), (oa (a 9) cI 201 pb), (oa (a 10) cI 201 it)]) A) ([.ref k0, .int (nI f), .int w] : List Value).toArray s 0 0 A := ⟨_, rfl⟩
  rw [← hQ9]
  have hl := lv_entry ([.ref k0, .int (nI f), .int w]) (n := 3) (Nat.le_of_ble_eq_true rfl)
  rw [lg_entry_eq]
  generalize (lg_sl ([.ref k0, .int (nI f), .int w]) ++ List.replicate (3 - (lg_sl ([.ref k0, .int (nI f), .int w])).length) Slot.unset).toArray = ls at hl ⊢
  have hl : lv_has ls 3 [(0, .ref k0), (1, .int (nI f)), (2, .int w)] := hl
  refine lv_aload_n hx hb dX11_told_0 rfl (lv_at hl 0 rfl) ?_
  refine lv_iload_n hx hb dX11_told_1 rfl (lv_at hl 1 rfl) ?_
  obtain ⟨hPc, hDc, hFc, hI1⟩ := zi_sub (wc := [_]) hP hD hS hA [0] rfl rfl
  refine zcall (st1 := [.int (pI (f < ft))]) (va_runV (As := [.int (nI f)]) (rest := []) ⟨hx, hb, hml, hown, hts⟩ (k_M_isFeature_n l dC dI cI cZ cF s.heap.size k0 a I0 J0 f ft (by first | with_reducible assumption | assumption) (by first | with_reducible assumption | omega) (by first | with_reducible assumption | omega)) (csV_178 hts rfl rfl ⟨Nat.le_of_ble_eq_true rfl, Nat.le_of_ble_eq_true rfl⟩) (zPV2 (q0 := 0) (ci := 9) hPc hDc hK hXN rfl rfl) rfl rfl hl.1 rfl (lv_room (Nat.le_of_ble_eq_true rfl)) dX11_told_2 ⟨Nat.le_of_ble_eq_true rfl, Nat.le_of_ble_eq_true rfl⟩) hS hFc hFc rfl (fun t H locs ht hB hk1 hS => ?_)
  obtain ⟨hP1, hD1⟩ := hB
  rw [ht] at hP1
  replace hP := z0 hP hD hk1 hP1 hI1
  clear hk1 hPc hDc hFc hP1 hD1 ht hI1
  refine lv_if_ne (tgt := 10) hx hb dX11_told_5 rfl (fun c_1 => ?_) (fun c_1 => ?_)
  · have c_1 : f < ft := zp_1 c_1
    refine lv_iload_n hx hb dX11_told_10 rfl (lv_at hl 2 rfl) ?_
    rcases zz_sw (lo := 0) (hi := 10) rfl with c_2 | c_2
    · refine lv_tableOut (tgt := 166) hx hb dX11_told_11 c_2.1 (by decide) ?_
      refine lv_iconst (v := (-1)) hx hb dX11_told_166 rfl ?_
      obtain ⟨hP9, hD9⟩ := zu_sub (wc := [_, _, _, _, _, _, _, _, _, _, _, _]) hP hD [true, true, true, true, true, true, true, true, true, true, true, true] rfl rfl
      rw [hQ9]
      exact W.iret (v := (-1)) hx hb hr (fun t ht hW => ⟨⟨_, rfl, (-1), rfl, by rw [ht]; exact hP9, hD9⟩, hS.F ht⟩) hS.2.2 dX11_told_167
    · by_cases c_3 : w.toInt = 0
      · refine lv_tableIn (tgt := 68) (off := 57) hx hb dX11_told_11 c_2.2.1 c_2.2.2 (by rw [show (w).toInt = 0 from (rfl).trans c_3]; rfl) (by decide) ?_
        refine lv_aload_n hx hb dX11_told_68 rfl (lv_at hl 0 rfl) ?_
        refine va_get (D := (dC, dI)) (ci := 9) (v := .ref (a 1)) (C := RX11) (T := TX11) (N := 55) hx hb hts inX11 hown hK hP 0 rfl rfl 1 (Nat.le_of_ble_eq_true rfl) (hts _ mw_1160) (fun _ h9 => h9) rfl dX11_told_69 ?_
        refine lv_iload_n hx hb dX11_told_72 rfl (lv_at hl 1 rfl) ?_
        have b9_4 : f < 201 := by omega
        refine z_iald hx hb hK hP 1 0 rfl rfl (e := f) rfl b9_4 (Nat.le_of_ble_eq_true rfl) dX11_told_73 ?_
        obtain ⟨hP9, hD9⟩ := zu_sub (wc := [_, _, _, _, _, _, _, _, _, _, _, _]) hP hD [true, true, true, true, true, true, true, true, true, true, true, true] rfl rfl
        rw [hQ9]
        exact W.iret (v := kd f) hx hb hr (fun t ht hW => ⟨⟨_, rfl, (kd f), rfl, by rw [ht]; exact hP9, hD9⟩, hS.F ht⟩) hS.2.2 dX11_told_74
      by_cases c_5 : w.toInt = 1
      · refine lv_tableIn (tgt := 75) (off := 64) hx hb dX11_told_11 c_2.2.1 c_2.2.2 (by rw [show (w).toInt = 1 from (rfl).trans c_5]; rfl) (by decide) ?_
        refine lv_aload_n hx hb dX11_told_75 rfl (lv_at hl 0 rfl) ?_
        refine va_get (D := (dC, dI)) (ci := 9) (v := .ref (a 2)) (C := RX11) (T := TX11) (N := 55) hx hb hts inX11 hown hK hP 0 rfl rfl 2 (Nat.le_of_ble_eq_true rfl) (hts _ mw_1161) (fun _ h9 => h9) rfl dX11_told_76 ?_
        refine lv_iload_n hx hb dX11_told_79 rfl (lv_at hl 1 rfl) ?_
        have b9_6 : f < 201 := by omega
        refine z_iald hx hb hK hP 2 0 rfl rfl (e := f) rfl b9_6 (Nat.le_of_ble_eq_true rfl) dX11_told_80 ?_
        obtain ⟨hP9, hD9⟩ := zu_sub (wc := [_, _, _, _, _, _, _, _, _, _, _, _]) hP hD [true, true, true, true, true, true, true, true, true, true, true, true] rfl rfl
        rw [hQ9]
        exact W.iret (v := rk f) hx hb hr (fun t ht hW => ⟨⟨_, rfl, (rk f), rfl, by rw [ht]; exact hP9, hD9⟩, hS.F ht⟩) hS.2.2 dX11_told_81
      by_cases c_7 : w.toInt = 2
      · refine lv_tableIn (tgt := 82) (off := 71) hx hb dX11_told_11 c_2.2.1 c_2.2.2 (by rw [show (w).toInt = 2 from (rfl).trans c_7]; rfl) (by decide) ?_
        refine lv_aload_n hx hb dX11_told_82 rfl (lv_at hl 0 rfl) ?_
        refine va_get (D := (dC, dI)) (ci := 9) (v := .ref (a 3)) (C := RX11) (T := TX11) (N := 55) hx hb hts inX11 hown hK hP 0 rfl rfl 3 (Nat.le_of_ble_eq_true rfl) (hts _ mw_1162) (fun _ h9 => h9) rfl dX11_told_83 ?_
        refine lv_iload_n hx hb dX11_told_86 rfl (lv_at hl 1 rfl) ?_
        have b9_8 : f < 201 := by omega
        refine z_iald hx hb hK hP 3 0 rfl rfl (e := f) rfl b9_8 (Nat.le_of_ble_eq_true rfl) dX11_told_87 ?_
        obtain ⟨hP9, hD9⟩ := zu_sub (wc := [_, _, _, _, _, _, _, _, _, _, _, _]) hP hD [true, true, true, true, true, true, true, true, true, true, true, true] rfl rfl
        rw [hQ9]
        exact W.iret (v := wd f) hx hb hr (fun t ht hW => ⟨⟨_, rfl, (wd f), rfl, by rw [ht]; exact hP9, hD9⟩, hS.F ht⟩) hS.2.2 dX11_told_88
      by_cases c_9 : w.toInt = 3
      · refine lv_tableIn (tgt := 89) (off := 78) hx hb dX11_told_11 c_2.2.1 c_2.2.2 (by rw [show (w).toInt = 3 from (rfl).trans c_9]; rfl) (by decide) ?_
        refine lv_aload_n hx hb dX11_told_89 rfl (lv_at hl 0 rfl) ?_
        refine va_get (D := (dC, dI)) (ci := 9) (v := .ref (a 4)) (C := RX11) (T := TX11) (N := 55) hx hb hts inX11 hown hK hP 0 rfl rfl 4 (Nat.le_of_ble_eq_true rfl) (hts _ mw_1163) (fun _ h9 => h9) rfl dX11_told_90 ?_
        refine lv_iload_n hx hb dX11_told_93 rfl (lv_at hl 1 rfl) ?_
        have b9_10 : f < 201 := by omega
        refine z_iald hx hb hK hP 4 0 rfl rfl (e := f) rfl b9_10 (Nat.le_of_ble_eq_true rfl) dX11_told_94 ?_
        obtain ⟨hP9, hD9⟩ := zu_sub (wc := [_, _, _, _, _, _, _, _, _, _, _, _]) hP hD [true, true, true, true, true, true, true, true, true, true, true, true] rfl rfl
        rw [hQ9]
        exact W.iret (v := tw f) hx hb hr (fun t ht hW => ⟨⟨_, rfl, (tw f), rfl, by rw [ht]; exact hP9, hD9⟩, hS.F ht⟩) hS.2.2 dX11_told_95
      by_cases c_11 : w.toInt = 4
      · refine lv_tableIn (tgt := 96) (off := 85) hx hb dX11_told_11 c_2.2.1 c_2.2.2 (by rw [show (w).toInt = 4 from (rfl).trans c_11]; rfl) (by decide) ?_
        refine lv_aload_n hx hb dX11_told_96 rfl (lv_at hl 0 rfl) ?_
        refine va_get (D := (dC, dI)) (ci := 9) (v := .ref (a 6)) (C := RX11) (T := TX11) (N := 55) hx hb hts inX11 hown hK hP 0 rfl rfl 6 (Nat.le_of_ble_eq_true rfl) (hts _ mw_1165) (fun _ h9 => h9) rfl dX11_told_97 ?_
        refine lv_iload_n hx hb dX11_told_100 rfl (lv_at hl 1 rfl) ?_
        have b9_12 : f < 201 := by omega
        refine z_zald hx hb hK hP 7 1 rfl rfl (e := f) rfl b9_12 (Nat.le_of_ble_eq_true rfl) dX11_told_101 ?_
        refine lv_if_eq (tgt := 109) hx hb dX11_told_102 rfl (fun c_13 => ?_) (fun c_13 => ?_)
        · have c_13 : (tn f).toInt = 0 := zc_eq rfl rfl c_13
          refine lv_aload_n hx hb dX11_told_109 rfl (lv_at hl 0 rfl) ?_
          refine va_get (D := (dC, dI)) (ci := 9) (v := .ref (a 11)) (C := RX11) (T := TX11) (N := 55) hx hb hts inX11 hown hK hP 0 rfl rfl 11 (Nat.le_of_ble_eq_true rfl) (hts _ mw_1170) (fun _ h9 => h9) rfl dX11_told_110 ?_
          refine lv_iload_n hx hb dX11_told_113 rfl (lv_at hl 1 rfl) ?_
          refine z_iald hx hb hK hP 5 0 rfl rfl (e := f) rfl b9_12 (Nat.le_of_ble_eq_true rfl) dX11_told_114 ?_
          obtain ⟨hP9, hD9⟩ := zu_sub (wc := [_, _, _, _, _, _, _, _, _, _, _, _]) hP hD [true, true, true, true, true, true, true, true, true, true, true, true] rfl rfl
          rw [hQ9]
          exact W.iret (v := mn f) hx hb hr (fun t ht hW => ⟨⟨_, rfl, (mn f), rfl, by rw [ht]; exact hP9, hD9⟩, hS.F ht⟩) hS.2.2 dX11_told_115
        · have c_13 : ¬ (tn f).toInt = 0 := zc_ne rfl rfl c_13
          refine lv_iconst (v := 0) hx hb dX11_told_105 rfl ?_
          refine lv_goto (tgt := 115) hx hb dX11_told_106 rfl ?_
          obtain ⟨hP9, hD9⟩ := zu_sub (wc := [_, _, _, _, _, _, _, _, _, _, _, _]) hP hD [true, true, true, true, true, true, true, true, true, true, true, true] rfl rfl
          rw [hQ9]
          exact W.iret (v := 0) hx hb hr (fun t ht hW => ⟨⟨_, rfl, 0, rfl, by rw [ht]; exact hP9, hD9⟩, hS.F ht⟩) hS.2.2 dX11_told_115
      by_cases c_14 : w.toInt = 5
      · refine lv_tableIn (tgt := 116) (off := 105) hx hb dX11_told_11 c_2.2.1 c_2.2.2 (by rw [show (w).toInt = 5 from (rfl).trans c_14]; rfl) (by decide) ?_
        refine lv_aload_n hx hb dX11_told_116 rfl (lv_at hl 0 rfl) ?_
        refine va_get (D := (dC, dI)) (ci := 9) (v := .ref (a 5)) (C := RX11) (T := TX11) (N := 55) hx hb hts inX11 hown hK hP 0 rfl rfl 5 (Nat.le_of_ble_eq_true rfl) (hts _ mw_1164) (fun _ h9 => h9) rfl dX11_told_117 ?_
        refine lv_iload_n hx hb dX11_told_120 rfl (lv_at hl 1 rfl) ?_
        have b9_15 : f < 201 := by omega
        refine z_iald hx hb hK hP 6 0 rfl rfl (e := f) rfl b9_15 (Nat.le_of_ble_eq_true rfl) dX11_told_121 ?_
        obtain ⟨hP9, hD9⟩ := zu_sub (wc := [_, _, _, _, _, _, _, _, _, _, _, _]) hP hD [true, true, true, true, true, true, true, true, true, true, true, true] rfl rfl
        rw [hQ9]
        exact W.iret (v := st f) hx hb hr (fun t ht hW => ⟨⟨_, rfl, (st f), rfl, by rw [ht]; exact hP9, hD9⟩, hS.F ht⟩) hS.2.2 dX11_told_122
      by_cases c_16 : w.toInt = 6
      · refine lv_tableIn (tgt := 123) (off := 112) hx hb dX11_told_11 c_2.2.1 c_2.2.2 (by rw [show (w).toInt = 6 from (rfl).trans c_16]; rfl) (by decide) ?_
        refine lv_aload_n hx hb dX11_told_123 rfl (lv_at hl 0 rfl) ?_
        refine va_get (D := (dC, dI)) (ci := 9) (v := .ref (a 6)) (C := RX11) (T := TX11) (N := 55) hx hb hts inX11 hown hK hP 0 rfl rfl 6 (Nat.le_of_ble_eq_true rfl) (hts _ mw_1165) (fun _ h9 => h9) rfl dX11_told_124 ?_
        refine lv_iload_n hx hb dX11_told_127 rfl (lv_at hl 1 rfl) ?_
        have b9_17 : f < 201 := by omega
        refine z_zald hx hb hK hP 7 1 rfl rfl (e := f) rfl b9_17 (Nat.le_of_ble_eq_true rfl) dX11_told_128 ?_
        refine lv_if_eq (tgt := 136) hx hb dX11_told_129 rfl (fun c_18 => ?_) (fun c_18 => ?_)
        · have c_18 : (tn f).toInt = 0 := zc_eq rfl rfl c_18
          refine lv_iconst (v := 0) hx hb dX11_told_136 rfl ?_
          obtain ⟨hP9, hD9⟩ := zu_sub (wc := [_, _, _, _, _, _, _, _, _, _, _, _]) hP hD [true, true, true, true, true, true, true, true, true, true, true, true] rfl rfl
          rw [hQ9]
          exact W.iret (v := 0) hx hb hr (fun t ht hW => ⟨⟨_, rfl, 0, rfl, by rw [ht]; exact hP9, hD9⟩, hS.F ht⟩) hS.2.2 dX11_told_137
        · have c_18 : ¬ (tn f).toInt = 0 := zc_ne rfl rfl c_18
          refine lv_iconst (v := 1) hx hb dX11_told_132 rfl ?_
          refine lv_goto (tgt := 137) hx hb dX11_told_133 rfl ?_
          obtain ⟨hP9, hD9⟩ := zu_sub (wc := [_, _, _, _, _, _, _, _, _, _, _, _]) hP hD [true, true, true, true, true, true, true, true, true, true, true, true] rfl rfl
          rw [hQ9]
          exact W.iret (v := 1) hx hb hr (fun t ht hW => ⟨⟨_, rfl, 1, rfl, by rw [ht]; exact hP9, hD9⟩, hS.F ht⟩) hS.2.2 dX11_told_137
      by_cases c_19 : w.toInt = 7
      · refine lv_tableIn (tgt := 138) (off := 127) hx hb dX11_told_11 c_2.2.1 c_2.2.2 (by rw [show (w).toInt = 7 from (rfl).trans c_19]; rfl) (by decide) ?_
        refine lv_aload_n hx hb dX11_told_138 rfl (lv_at hl 0 rfl) ?_
        refine va_get (D := (dC, dI)) (ci := 9) (v := .ref (a 7)) (C := RX11) (T := TX11) (N := 55) hx hb hts inX11 hown hK hP 0 rfl rfl 7 (Nat.le_of_ble_eq_true rfl) (hts _ mw_1166) (fun _ h9 => h9) rfl dX11_told_139 ?_
        refine lv_iload_n hx hb dX11_told_142 rfl (lv_at hl 1 rfl) ?_
        have b9_20 : f < 201 := by omega
        refine z_iald hx hb hK hP 8 0 rfl rfl (e := f) rfl b9_20 (Nat.le_of_ble_eq_true rfl) dX11_told_143 ?_
        obtain ⟨hP9, hD9⟩ := zu_sub (wc := [_, _, _, _, _, _, _, _, _, _, _, _]) hP hD [true, true, true, true, true, true, true, true, true, true, true, true] rfl rfl
        rw [hQ9]
        exact W.iret (v := gb f) hx hb hr (fun t ht hW => ⟨⟨_, rfl, (gb f), rfl, by rw [ht]; exact hP9, hD9⟩, hS.F ht⟩) hS.2.2 dX11_told_144
      by_cases c_21 : w.toInt = 8
      · refine lv_tableIn (tgt := 145) (off := 134) hx hb dX11_told_11 c_2.2.1 c_2.2.2 (by rw [show (w).toInt = 8 from (rfl).trans c_21]; rfl) (by decide) ?_
        refine lv_aload_n hx hb dX11_told_145 rfl (lv_at hl 0 rfl) ?_
        refine va_get (D := (dC, dI)) (ci := 9) (v := .ref (a 8)) (C := RX11) (T := TX11) (N := 55) hx hb hts inX11 hown hK hP 0 rfl rfl 8 (Nat.le_of_ble_eq_true rfl) (hts _ mw_1167) (fun _ h9 => h9) rfl dX11_told_146 ?_
        refine lv_iload_n hx hb dX11_told_149 rfl (lv_at hl 1 rfl) ?_
        have b9_22 : f < 201 := by omega
        refine z_iald hx hb hK hP 9 0 rfl rfl (e := f) rfl b9_22 (Nat.le_of_ble_eq_true rfl) dX11_told_150 ?_
        obtain ⟨hP9, hD9⟩ := zu_sub (wc := [_, _, _, _, _, _, _, _, _, _, _, _]) hP hD [true, true, true, true, true, true, true, true, true, true, true, true] rfl rfl
        rw [hQ9]
        exact W.iret (v := pa f) hx hb hr (fun t ht hW => ⟨⟨_, rfl, (pa f), rfl, by rw [ht]; exact hP9, hD9⟩, hS.F ht⟩) hS.2.2 dX11_told_151
      by_cases c_23 : w.toInt = 9
      · refine lv_tableIn (tgt := 152) (off := 141) hx hb dX11_told_11 c_2.2.1 c_2.2.2 (by rw [show (w).toInt = 9 from (rfl).trans c_23]; rfl) (by decide) ?_
        refine lv_aload_n hx hb dX11_told_152 rfl (lv_at hl 0 rfl) ?_
        refine va_get (D := (dC, dI)) (ci := 9) (v := .ref (a 9)) (C := RX11) (T := TX11) (N := 55) hx hb hts inX11 hown hK hP 0 rfl rfl 9 (Nat.le_of_ble_eq_true rfl) (hts _ mw_1168) (fun _ h9 => h9) rfl dX11_told_153 ?_
        refine lv_iload_n hx hb dX11_told_156 rfl (lv_at hl 1 rfl) ?_
        have b9_24 : f < 201 := by omega
        refine z_iald hx hb hK hP 10 0 rfl rfl (e := f) rfl b9_24 (Nat.le_of_ble_eq_true rfl) dX11_told_157 ?_
        obtain ⟨hP9, hD9⟩ := zu_sub (wc := [_, _, _, _, _, _, _, _, _, _, _, _]) hP hD [true, true, true, true, true, true, true, true, true, true, true, true] rfl rfl
        rw [hQ9]
        exact W.iret (v := pb f) hx hb hr (fun t ht hW => ⟨⟨_, rfl, (pb f), rfl, by rw [ht]; exact hP9, hD9⟩, hS.F ht⟩) hS.2.2 dX11_told_158
      by_cases c_25 : w.toInt = 10
      · refine lv_tableIn (tgt := 159) (off := 148) hx hb dX11_told_11 c_2.2.1 c_2.2.2 (by rw [show (w).toInt = 10 from (rfl).trans c_25]; rfl) (by decide) ?_
        refine lv_aload_n hx hb dX11_told_159 rfl (lv_at hl 0 rfl) ?_
        refine va_get (D := (dC, dI)) (ci := 9) (v := .ref (a 10)) (C := RX11) (T := TX11) (N := 55) hx hb hts inX11 hown hK hP 0 rfl rfl 10 (Nat.le_of_ble_eq_true rfl) (hts _ mw_1169) (fun _ h9 => h9) rfl dX11_told_160 ?_
        refine lv_iload_n hx hb dX11_told_163 rfl (lv_at hl 1 rfl) ?_
        have b9_26 : f < 201 := by omega
        refine z_iald hx hb hK hP 11 0 rfl rfl (e := f) rfl b9_26 (Nat.le_of_ble_eq_true rfl) dX11_told_164 ?_
        obtain ⟨hP9, hD9⟩ := zu_sub (wc := [_, _, _, _, _, _, _, _, _, _, _, _]) hP hD [true, true, true, true, true, true, true, true, true, true, true, true] rfl rfl
        rw [hQ9]
        exact W.iret (v := it f) hx hb hr (fun t ht hW => ⟨⟨_, rfl, (it f), rfl, by rw [ht]; exact hP9, hD9⟩, hS.F ht⟩) hS.2.2 dX11_told_165
      exfalso; omega
  · have c_1 : ¬ (f < ft) := zp_0 c_1
    exfalso; omega
set_option maxHeartbeats 4000000 in
set_option maxRecDepth 100000 in
theorem k_M_step_a (l : Launch) (dC : Nat → ClassId) (dI : Nat → Nat → Nat) (cI cZ cF : ClassId) (sz : Nat) (k0 : Nat) (a : Nat → Nat) (I0 : Nat → Int32) (J0 : Nat → Int64) (i : Nat) (dn : Nat) (rd : Nat) (w : Int32) (wh : Nat → Int32) (of9 : Nat → Int32) (we : Nat → Int32) (hdn : I0 19 = nI dn) (hrd : I0 20 = nI rd) (hsum : dn + rd ≤ 512) (hi1 : 1 ≤ i ∧ i ≤ dn + rd) : Met l yX11_step (.code yX11_step cX11_step 3 (some .int) :: ws0) ({ frames := 0, cells := 0, slots := 0, locals := 0 } : Room) (va_Pc [.ref k0, .int (nI i), .int w] (zPre (dC, dI) classes (zTy cI cZ cF) [(om k0 a I0 J0), (oa (a 16) cI 514 wh), (oa (a 17) cI 514 of9), (oa (a 18) cI 514 we)] sz zXN)) (zQe (fun v9 t => ∃ (b9 : Int32), v9 = (some (.int b9)) ∧ va_P (dC, dI) classes [(om k0 a I0 J0), (oa (a 16) cI 514 wh), (oa (a 17) cI 514 of9), (oa (a 18) cI 514 we)] t.heap ∧ va_D (va_A [(om k0 a I0 J0), (oa (a 16) cI 514 wh), (oa (a 17) cI 514 of9), (oa (a 18) cI 514 we)] sz) [(om k0 a I0 J0), (oa (a 16) cI 514 wh), (oa (a 17) cI 514 of9), (oa (a 18) cI 514 we)]) (va_A [(om k0 a I0 J0), (oa (a 16) cI 514 wh), (oa (a 17) cI 514 of9), (oa (a 18) cI 514 we)] sz)) 0 0 (va_A [(om k0 a I0 J0), (oa (a 16) cI 514 wh), (oa (a 17) cI 514 of9), (oa (a 18) cI 514 we)] sz) := by
  refine Met.ofW (cc := cX11_step) (maxL := 3) (ret := (some .int)) rfl rfl ?_
  intro p e s m args below meth c s₁ B hml hv
  obtain ⟨rfl, hsz, hP, hK, hD0, hXN⟩ := hv
  have hx := B.exec
  have hb := B.bytes
  have hr := B.returns
  have hts0 := atoms_spec (ws := .code yX11_step cX11_step 3 (some .int) :: ws0) B.pre
  have hts : ∀ w9 ∈ ws0, w9.before ([.ref k0, .int (nI i), .int w] : List Value).toArray s = true := fun w9 h => hts0 w9 (List.mem_cons_of_mem _ h)
  have hown : s.vm.findClass "ScaleShopModel" = some m.cls := findClass_of_methodNamed B.named
  have hlocks := B.notSynchronized
  subst hsz
  have hD := hD0.self (sz := s.heap.size)
  clear hD0
  generalize hAe : va_A [(om k0 a I0 J0), (oa (a 16) cI 514 wh), (oa (a 17) cI 514 of9), (oa (a 18) cI 514 we)] s.heap.size = A at hD ⊢
  have hA : ∀ q : Nat, s.heap.size ≤ q → A q := fun q h => by rw [← hAe]; exact Or.inr h
  clear hAe
  have hS : va_S A s.heap s.heap [] := va_S.rf
  have hP : va_P (dC, dI) classes [(om k0 a I0 J0), (oa (a 16) cI 514 wh), (oa (a 17) cI 514 of9), (oa (a 18) cI 514 we)] s.heap := hP
  obtain ⟨Q9, hQ9⟩ : ∃ Q9 : State → Prop, Q9 = MQ below (zQe (fun v9 t => ∃ (b9 : Int32), v9 = (some (.int b9)) ∧ va_P (dC, dI) classes [(om k0 a I0 J0), (oa (a 16) cI 514 wh), (oa (a 17) cI 514 of9), (oa (a 18) cI 514 we)] t.heap ∧ va_D A [(om k0 a I0 J0), (oa (a 16) cI 514 wh), (oa (a 17) cI 514 of9), (oa (a 18) cI 514 we)]) A) ([.ref k0, .int (nI i), .int w] : List Value).toArray s 0 0 A := ⟨_, rfl⟩
  rw [← hQ9]
  have hl := lv_entry ([.ref k0, .int (nI i), .int w]) (n := 3) (Nat.le_of_ble_eq_true rfl)
  rw [lg_entry_eq]
  generalize (lg_sl ([.ref k0, .int (nI i), .int w]) ++ List.replicate (3 - (lg_sl ([.ref k0, .int (nI i), .int w])).length) Slot.unset).toArray = ls at hl ⊢
  have hl : lv_has ls 3 [(0, .ref k0), (1, .int (nI i)), (2, .int w)] := hl
  refine lv_iload_n hx hb dX11_step_0 rfl (lv_at hl 1 rfl) ?_
  refine lv_iconst (v := 1) hx hb dX11_step_1 rfl ?_
  have b9_2 : zlt (i) := show i < 2147483648 by omega
  refine lv_icmp_lt (tgt := 18) hx hb dX11_step_2 rfl (fun c_1 => ?_) (fun c_1 => ?_)
  · have c_1 : ((i : Nat) : Int) < 1 := zc_lt (nI_toInt b9_2) rfl c_1
    exfalso; omega
  · have c_1 : 1 ≤ ((i : Nat) : Int) := zc_nlt (nI_toInt b9_2) rfl c_1
    refine lv_iload_n hx hb dX11_step_5 rfl (lv_at hl 1 rfl) ?_
    refine lv_aload_n hx hb dX11_step_6 rfl (lv_at hl 0 rfl) ?_
    refine va_get (D := (dC, dI)) (ci := 9) (v := .int (I0 19)) (C := RX11) (T := TX11) (N := 55) hx hb hts inX11 hown hK hP 0 rfl rfl 19 (Nat.le_of_ble_eq_true rfl) (hts _ mw_1178) (fun _ h9 => h9) rfl dX11_step_7 ?_
    refine zz_i (v := nI dn) (hdn) ?_
    refine lv_aload_n hx hb dX11_step_10 rfl (lv_at hl 0 rfl) ?_
    refine va_get (D := (dC, dI)) (ci := 9) (v := .int (I0 20)) (C := RX11) (T := TX11) (N := 55) hx hb hts inX11 hown hK hP 0 rfl rfl 20 (Nat.le_of_ble_eq_true rfl) (hts _ mw_1179) (fun _ h9 => h9) rfl dX11_step_11 ?_
    refine zz_i (v := nI rd) (hrd) ?_
    refine lv_iadd hx hb dX11_step_14 ?_
    refine zz_i (v := nI (dn + rd)) (nI_add dn rd) ?_
    have b9_4 : zlt ((dn + rd)) := show (dn + rd) < 2147483648 by omega
    refine lv_icmp_le (tgt := 20) hx hb dX11_step_15 rfl (fun c_3 => ?_) (fun c_3 => ?_)
    · have c_3 : ((i : Nat) : Int) ≤ ((dn + rd : Nat) : Int) := zc_le (nI_toInt b9_2) (nI_toInt b9_4) c_3
      refine lv_iload_n hx hb dX11_step_20 rfl (lv_at hl 2 rfl) ?_
      rcases zz_sw (lo := 0) (hi := 3) rfl with c_5 | c_5
      · refine lv_tableOut (tgt := 87) hx hb dX11_step_21 c_5.1 (by decide) ?_
        refine lv_iconst (v := (-1)) hx hb dX11_step_87 rfl ?_
        obtain ⟨hP9, hD9⟩ := zu_sub (wc := [_, _, _, _]) hP hD [true, true, true, true] rfl rfl
        rw [hQ9]
        exact W.iret (v := (-1)) hx hb hr (fun t ht hW => ⟨⟨_, rfl, (-1), rfl, by rw [ht]; exact hP9, hD9⟩, hS.F ht⟩) hS.2.2 dX11_step_88
      · by_cases c_6 : w.toInt = 0
        · refine lv_tableIn (tgt := 52) (off := 31) hx hb dX11_step_21 c_5.2.1 c_5.2.2 (by rw [show (w).toInt = 0 from (rfl).trans c_6]; rfl) (by decide) ?_
          refine lv_aload_n hx hb dX11_step_52 rfl (lv_at hl 0 rfl) ?_
          refine va_get (D := (dC, dI)) (ci := 9) (v := .ref (a 16)) (C := RX11) (T := TX11) (N := 55) hx hb hts inX11 hown hK hP 0 rfl rfl 16 (Nat.le_of_ble_eq_true rfl) (hts _ mw_1175) (fun _ h9 => h9) rfl dX11_step_53 ?_
          refine lv_iload_n hx hb dX11_step_56 rfl (lv_at hl 1 rfl) ?_
          have b9_7 : i < 514 := by omega
          refine z_iald hx hb hK hP 1 0 rfl rfl (e := i) rfl b9_7 (Nat.le_of_ble_eq_true rfl) dX11_step_57 ?_
          obtain ⟨hP9, hD9⟩ := zu_sub (wc := [_, _, _, _]) hP hD [true, true, true, true] rfl rfl
          rw [hQ9]
          exact W.iret (v := wh i) hx hb hr (fun t ht hW => ⟨⟨_, rfl, (wh i), rfl, by rw [ht]; exact hP9, hD9⟩, hS.F ht⟩) hS.2.2 dX11_step_58
        by_cases c_8 : w.toInt = 1
        · refine lv_tableIn (tgt := 59) (off := 38) hx hb dX11_step_21 c_5.2.1 c_5.2.2 (by rw [show (w).toInt = 1 from (rfl).trans c_8]; rfl) (by decide) ?_
          refine lv_aload_n hx hb dX11_step_59 rfl (lv_at hl 0 rfl) ?_
          refine va_get (D := (dC, dI)) (ci := 9) (v := .ref (a 17)) (C := RX11) (T := TX11) (N := 55) hx hb hts inX11 hown hK hP 0 rfl rfl 17 (Nat.le_of_ble_eq_true rfl) (hts _ mw_1176) (fun _ h9 => h9) rfl dX11_step_60 ?_
          refine lv_iload_n hx hb dX11_step_63 rfl (lv_at hl 1 rfl) ?_
          have b9_9 : i < 514 := by omega
          refine z_iald hx hb hK hP 2 0 rfl rfl (e := i) rfl b9_9 (Nat.le_of_ble_eq_true rfl) dX11_step_64 ?_
          obtain ⟨hP9, hD9⟩ := zu_sub (wc := [_, _, _, _]) hP hD [true, true, true, true] rfl rfl
          rw [hQ9]
          exact W.iret (v := of9 i) hx hb hr (fun t ht hW => ⟨⟨_, rfl, (of9 i), rfl, by rw [ht]; exact hP9, hD9⟩, hS.F ht⟩) hS.2.2 dX11_step_65
        by_cases c_10 : w.toInt = 2
        · refine lv_tableIn (tgt := 66) (off := 45) hx hb dX11_step_21 c_5.2.1 c_5.2.2 (by rw [show (w).toInt = 2 from (rfl).trans c_10]; rfl) (by decide) ?_
          refine lv_aload_n hx hb dX11_step_66 rfl (lv_at hl 0 rfl) ?_
          refine va_get (D := (dC, dI)) (ci := 9) (v := .ref (a 18)) (C := RX11) (T := TX11) (N := 55) hx hb hts inX11 hown hK hP 0 rfl rfl 18 (Nat.le_of_ble_eq_true rfl) (hts _ mw_1177) (fun _ h9 => h9) rfl dX11_step_67 ?_
          refine lv_iload_n hx hb dX11_step_70 rfl (lv_at hl 1 rfl) ?_
          have b9_11 : i < 514 := by omega
          refine z_iald hx hb hK hP 3 0 rfl rfl (e := i) rfl b9_11 (Nat.le_of_ble_eq_true rfl) dX11_step_71 ?_
          obtain ⟨hP9, hD9⟩ := zu_sub (wc := [_, _, _, _]) hP hD [true, true, true, true] rfl rfl
          rw [hQ9]
          exact W.iret (v := we i) hx hb hr (fun t ht hW => ⟨⟨_, rfl, (we i), rfl, by rw [ht]; exact hP9, hD9⟩, hS.F ht⟩) hS.2.2 dX11_step_72
        by_cases c_12 : w.toInt = 3
        · refine lv_tableIn (tgt := 73) (off := 52) hx hb dX11_step_21 c_5.2.1 c_5.2.2 (by rw [show (w).toInt = 3 from (rfl).trans c_12]; rfl) (by decide) ?_
          refine lv_iload_n hx hb dX11_step_73 rfl (lv_at hl 1 rfl) ?_
          refine lv_aload_n hx hb dX11_step_74 rfl (lv_at hl 0 rfl) ?_
          refine va_get (D := (dC, dI)) (ci := 9) (v := .int (I0 19)) (C := RX11) (T := TX11) (N := 55) hx hb hts inX11 hown hK hP 0 rfl rfl 19 (Nat.le_of_ble_eq_true rfl) (hts _ mw_1178) (fun _ h9 => h9) rfl dX11_step_75 ?_
          refine zz_i (v := nI dn) (hdn) ?_
          have b9_14 : zlt (dn) := show dn < 2147483648 by omega
          refine lv_icmp_gt (tgt := 85) hx hb dX11_step_78 rfl (fun c_13 => ?_) (fun c_13 => ?_)
          · have c_13 : ((dn : Nat) : Int) < ((i : Nat) : Int) := zc_lt (nI_toInt b9_14) (nI_toInt b9_2) c_13
            refine lv_iconst (v := 0) hx hb dX11_step_85 rfl ?_
            obtain ⟨hP9, hD9⟩ := zu_sub (wc := [_, _, _, _]) hP hD [true, true, true, true] rfl rfl
            rw [hQ9]
            exact W.iret (v := 0) hx hb hr (fun t ht hW => ⟨⟨_, rfl, 0, rfl, by rw [ht]; exact hP9, hD9⟩, hS.F ht⟩) hS.2.2 dX11_step_86
          · have c_13 : ((i : Nat) : Int) ≤ ((dn : Nat) : Int) := zc_nlt (nI_toInt b9_14) (nI_toInt b9_2) c_13
            refine lv_iconst (v := 1) hx hb dX11_step_81 rfl ?_
            refine lv_goto (tgt := 86) hx hb dX11_step_82 rfl ?_
            obtain ⟨hP9, hD9⟩ := zu_sub (wc := [_, _, _, _]) hP hD [true, true, true, true] rfl rfl
            rw [hQ9]
            exact W.iret (v := 1) hx hb hr (fun t ht hW => ⟨⟨_, rfl, 1, rfl, by rw [ht]; exact hP9, hD9⟩, hS.F ht⟩) hS.2.2 dX11_step_86
        exfalso; omega
    · have c_3 : ((dn + rd : Nat) : Int) < ((i : Nat) : Int) := zc_nle (nI_toInt b9_2) (nI_toInt b9_4) c_3
      exfalso; omega
set_option maxHeartbeats 4000000 in
set_option maxRecDepth 100000 in
theorem k_M_near_a (l : Launch) (dC : Nat → ClassId) (dI : Nat → Nat → Nat) (cI cZ cF : ClassId) (sz : Nat) (k0 : Nat) (a : Nat → Nat) (I0 : Nat → Int32) (J0 : Nat → Int64) (f : Nat) (g : Nat) (ft : Nat) (w : Int32) (st : Nat → Int32) (tn : Nat → Int32) (kd : Nat → Int32) (mn : Nat → Int32) (cx : Nat → Int32) (cy : Nat → Int32) (S0 : Nat → Int32) (hft : I0 0 = nI ft) (h200 : ft ≤ 200) (hwf : ∀ q, lvF ft st tn q → wfM mn cx cy q) (hf_t : f < ft) (hg_t : g < ft) (hlf : lvF ft st tn f) (hlg : lvF ft st tn g) (hw1 : 0 ≤ w.toInt ∧ w.toInt ≤ 1) (he_f : 1 ≤ eO (kd f).toInt (nN (mn f))) (he_g : 1 ≤ eO (kd g).toInt (nN (mn g))) : Met l yX11_near (.code yX11_near cX11_near 4 (some .long) :: ws0) ({ frames := 5, cells := 0, slots := 0, locals := 129 } : Room) (va_Pc [.ref k0, .int (nI f), .int (nI g), .int w] (zPre (dC, dI) classes (zTy cI cZ cF) [(om k0 a I0 J0), (oa (a 5) cI 201 st), (oa (a 6) cZ 201 tn), (oa (a 1) cI 201 kd), (oa (a 11) cI 201 mn), (oa (a 12) cI 8040 cx), (oa (a 13) cI 8040 cy), (oa (a 32) cI 8 S0)] sz zXN)) (zQe (fun v9 t => ∃ (b9 : Int64), ∃ (un : Nat), ∃ (dd : Nat), ∃ (S1 : Nat → Int32), v9 = (some (.long b9)) ∧ va_P (dC, dI) classes [(om k0 a I0 (vp_updL (vp_updL J0 48 (jI ((un : Nat) : Int))) 49 (jI ((dd : Nat) : Int)))), (oa (a 5) cI 201 st), (oa (a 6) cZ 201 tn), (oa (a 1) cI 201 kd), (oa (a 11) cI 201 mn), (oa (a 12) cI 8040 cx), (oa (a 13) cI 8040 cy), (oa (a 32) cI 8 S1)] t.heap ∧ va_D (va_A [(om k0 a I0 J0), (oa (a 5) cI 201 st), (oa (a 6) cZ 201 tn), (oa (a 1) cI 201 kd), (oa (a 11) cI 201 mn), (oa (a 12) cI 8040 cx), (oa (a 13) cI 8040 cy), (oa (a 32) cI 8 S0)] sz) [(om k0 a I0 (vp_updL (vp_updL J0 48 (jI ((un : Nat) : Int))) 49 (jI ((dd : Nat) : Int)))), (oa (a 5) cI 201 st), (oa (a 6) cZ 201 tn), (oa (a 1) cI 201 kd), (oa (a 11) cI 201 mn), (oa (a 12) cI 8040 cx), (oa (a 13) cI 8040 cy), (oa (a 32) cI 8 S1)]) (va_A [(om k0 a I0 J0), (oa (a 5) cI 201 st), (oa (a 6) cZ 201 tn), (oa (a 1) cI 201 kd), (oa (a 11) cI 201 mn), (oa (a 12) cI 8040 cx), (oa (a 13) cI 8040 cy), (oa (a 32) cI 8 S0)] sz)) 0 0 (va_A [(om k0 a I0 J0), (oa (a 5) cI 201 st), (oa (a 6) cZ 201 tn), (oa (a 1) cI 201 kd), (oa (a 11) cI 201 mn), (oa (a 12) cI 8040 cx), (oa (a 13) cI 8040 cy), (oa (a 32) cI 8 S0)] sz) := by
  refine Met.ofW (cc := cX11_near) (maxL := 4) (ret := (some .long)) rfl rfl ?_
  intro p e s m args below meth c s₁ B hml hv
  obtain ⟨rfl, hsz, hP, hK, hD0, hXN⟩ := hv
  have hx := B.exec
  have hb := B.bytes
  have hr := B.returns
  have hts0 := atoms_spec (ws := .code yX11_near cX11_near 4 (some .long) :: ws0) B.pre
  have hts : ∀ w9 ∈ ws0, w9.before ([.ref k0, .int (nI f), .int (nI g), .int w] : List Value).toArray s = true := fun w9 h => hts0 w9 (List.mem_cons_of_mem _ h)
  have hown : s.vm.findClass "ScaleShopModel" = some m.cls := findClass_of_methodNamed B.named
  have hlocks := B.notSynchronized
  subst hsz
  have hD := hD0.self (sz := s.heap.size)
  clear hD0
  generalize hAe : va_A [(om k0 a I0 J0), (oa (a 5) cI 201 st), (oa (a 6) cZ 201 tn), (oa (a 1) cI 201 kd), (oa (a 11) cI 201 mn), (oa (a 12) cI 8040 cx), (oa (a 13) cI 8040 cy), (oa (a 32) cI 8 S0)] s.heap.size = A at hD ⊢
  have hA : ∀ q : Nat, s.heap.size ≤ q → A q := fun q h => by rw [← hAe]; exact Or.inr h
  clear hAe
  have hS : va_S A s.heap s.heap [] := va_S.rf
  have hP : va_P (dC, dI) classes [(om k0 a I0 J0), (oa (a 5) cI 201 st), (oa (a 6) cZ 201 tn), (oa (a 1) cI 201 kd), (oa (a 11) cI 201 mn), (oa (a 12) cI 8040 cx), (oa (a 13) cI 8040 cy), (oa (a 32) cI 8 S0)] s.heap := hP
  obtain ⟨Q9, hQ9⟩ : ∃ Q9 : State → Prop, Q9 = MQ below (zQe (fun v9 t => ∃ (b9 : Int64), ∃ (un : Nat), ∃ (dd : Nat), ∃ (S1 : Nat → Int32), v9 = (some (.long b9)) ∧ va_P (dC, dI) classes [(om k0 a I0 (vp_updL (vp_updL J0 48 (jI ((un : Nat) : Int))) 49 (jI ((dd : Nat) : Int)))), (oa (a 5) cI 201 st), (oa (a 6) cZ 201 tn), (oa (a 1) cI 201 kd), (oa (a 11) cI 201 mn), (oa (a 12) cI 8040 cx), (oa (a 13) cI 8040 cy), (oa (a 32) cI 8 S1)] t.heap ∧ va_D A [(om k0 a I0 (vp_updL (vp_updL J0 48 (jI ((un : Nat) : Int))) 49 (jI ((dd : Nat) : Int)))), (oa (a 5) cI 201 st), (oa (a 6) cZ 201 tn), (oa (a 1) cI 201 kd), (oa (a 11) cI 201 mn), (oa (a 12) cI 8040 cx), (oa (a 13) cI 8040 cy), (oa (a 32) cI 8 S1)]) A) ([.ref k0, .int (nI f), .int (nI g), .int w] : List Value).toArray s 0 0 A := ⟨_, rfl⟩
  rw [← hQ9]
  have hl := lv_entry ([.ref k0, .int (nI f), .int (nI g), .int w]) (n := 4) (Nat.le_of_ble_eq_true rfl)
  rw [lg_entry_eq]
  generalize (lg_sl ([.ref k0, .int (nI f), .int (nI g), .int w]) ++ List.replicate (4 - (lg_sl ([.ref k0, .int (nI f), .int (nI g), .int w])).length) Slot.unset).toArray = ls at hl ⊢
  have hl : lv_has ls 4 [(0, .ref k0), (1, .int (nI f)), (2, .int (nI g)), (3, .int w)] := hl
  refine lv_aload_n hx hb dX11_near_0 rfl (lv_at hl 0 rfl) ?_
  refine lv_iload_n hx hb dX11_near_1 rfl (lv_at hl 1 rfl) ?_
  obtain ⟨hPc, hDc, hFc, hI1⟩ := zi_sub (wc := [_, _, _]) hP hD hS hA [0, 1, 2] rfl rfl
  refine zcall (st1 := [.int (pI (f < ft ∧ (st f).toInt = 1 ∧ (tn f).toInt = 0))]) (va_runV (As := [.int (nI f)]) (rest := []) ⟨hx, hb, hml, hown, hts⟩ (k_M_is_n l dC dI cI cZ cF s.heap.size k0 a I0 J0 f ft st tn (by first | with_reducible assumption | assumption) (by first | with_reducible assumption | omega) (by first | with_reducible assumption | omega)) (csV_179 hts rfl rfl ⟨Nat.le_of_ble_eq_true rfl, Nat.le_of_ble_eq_true rfl⟩) (zPV2 (q0 := 0) (ci := 9) hPc hDc hK hXN rfl rfl) rfl rfl hl.1 rfl (lv_room (Nat.le_of_ble_eq_true rfl)) dX11_near_2 ⟨Nat.le_of_ble_eq_true rfl, Nat.le_of_ble_eq_true rfl⟩) hS hFc hFc rfl (fun t H locs ht hB hk1 hS => ?_)
  obtain ⟨hP1, hD1⟩ := hB
  rw [ht] at hP1
  replace hP := z0 hP hD hk1 hP1 hI1
  clear hk1 hPc hDc hFc hP1 hD1 ht hI1
  refine lv_if_eq (tgt := 25) hx hb dX11_near_5 rfl (fun c_1 => ?_) (fun c_1 => ?_)
  · have c_1 : ¬ (f < ft ∧ (st f).toInt = 1 ∧ (tn f).toInt = 0) := zp_0 c_1
    exfalso; exact absurd hlf (by first | with_reducible assumption | assumption)
  · have c_1 : f < ft ∧ (st f).toInt = 1 ∧ (tn f).toInt = 0 := zp_1 c_1
    have hw_ff := hwf f (by first | with_reducible assumption | assumption)
    have hm_ff := hw_ff.1
    have hn_ff := hw_ff.2.1
    have hp_ff := hw_ff.2.2
    refine lv_aload_n hx hb dX11_near_8 rfl (lv_at hl 0 rfl) ?_
    refine lv_iload_n hx hb dX11_near_9 rfl (lv_at hl 2 rfl) ?_
    obtain ⟨hPc, hDc, hFc, hI1⟩ := zi_sub (wc := [_, _, _]) hP hD hS hA [0, 1, 2] rfl rfl
    refine zcall (st1 := [.int (pI (g < ft ∧ (st g).toInt = 1 ∧ (tn g).toInt = 0))]) (va_runV (As := [.int (nI g)]) (rest := []) ⟨hx, hb, hml, hown, hts⟩ (k_M_is_n l dC dI cI cZ cF H.size k0 a I0 J0 g ft st tn (by first | with_reducible assumption | assumption) (by first | with_reducible assumption | omega) (by first | with_reducible assumption | omega)) (csV_179 hts rfl rfl ⟨Nat.le_of_ble_eq_true rfl, Nat.le_of_ble_eq_true rfl⟩) (zPV2 (q0 := 0) (ci := 9) hPc hDc hK hXN rfl rfl) rfl rfl hl.1 rfl (lv_room (Nat.le_of_ble_eq_true rfl)) dX11_near_10 ⟨Nat.le_of_ble_eq_true rfl, Nat.le_of_ble_eq_true rfl⟩) hS hFc hFc rfl (fun t H locs ht hB hk1 hS => ?_)
    obtain ⟨hP1, hD1⟩ := hB
    rw [ht] at hP1
    replace hP := z0 hP hD hk1 hP1 hI1
    clear hk1 hPc hDc hFc hP1 hD1 ht hI1
    refine lv_if_eq (tgt := 25) hx hb dX11_near_13 rfl (fun c_2 => ?_) (fun c_2 => ?_)
    · have c_2 : ¬ (g < ft ∧ (st g).toInt = 1 ∧ (tn g).toInt = 0) := zp_0 c_2
      exfalso; exact absurd hlg (by first | with_reducible assumption | assumption)
    · have c_2 : g < ft ∧ (st g).toInt = 1 ∧ (tn g).toInt = 0 := zp_1 c_2
      have hw_gg := hwf g (by first | with_reducible assumption | assumption)
      have hm_gg := hw_gg.1
      have hn_gg := hw_gg.2.1
      have hp_gg := hw_gg.2.2
      refine lv_iload_n hx hb dX11_near_16 rfl (lv_at hl 3 rfl) ?_
      refine lv_if_lt (tgt := 25) hx hb dX11_near_17 rfl (fun c_3 => ?_) (fun c_3 => ?_)
      · have c_3 : w.toInt < 0 := zc_lt rfl rfl c_3
        exfalso; omega
      · have c_3 : 0 ≤ w.toInt := zc_nlt rfl rfl c_3
        refine lv_iload_n hx hb dX11_near_20 rfl (lv_at hl 3 rfl) ?_
        refine lv_iconst (v := 1) hx hb dX11_near_21 rfl ?_
        refine lv_icmp_le (tgt := 29) hx hb dX11_near_22 rfl (fun c_4 => ?_) (fun c_4 => ?_)
        · have c_4 : w.toInt ≤ 1 := zc_le rfl rfl c_4
          refine lv_aload_n hx hb dX11_near_29 rfl (lv_at hl 0 rfl) ?_
          refine lv_iload_n hx hb dX11_near_30 rfl (lv_at hl 1 rfl) ?_
          refine lv_iload_n hx hb dX11_near_31 rfl (lv_at hl 2 rfl) ?_
          obtain ⟨hPc, hDc, hFc⟩ := zo_sub (wc := [_, _, _, _, _, _]) hP hD hS hA [0, 3, 4, 5, 6, 7] (by decide +kernel) rfl
          refine zcall (st1 := []) (va_runV (As := [.int (nI f), .int (nI g)]) (rest := []) ⟨hx, hb, hml, hown, hts⟩ (k_M_distance_a l dC dI cI cZ cF H.size k0 a I0 J0 f (nN (mn f)) g (nN (mn g)) kd mn cx cy S0 (by first | with_reducible assumption | omega) (by first | with_reducible assumption | assumption) (by first | with_reducible assumption | omega) (by first | with_reducible assumption | assumption) (by first | with_reducible assumption | omega) (by first | with_reducible assumption | assumption) (by first | with_reducible assumption | omega) (by first | with_reducible assumption | assumption) (he_f) (he_g)) (csV_226 hts rfl rfl ⟨Nat.le_of_ble_eq_true rfl, Nat.le_of_ble_eq_true rfl⟩) (zPV2 (q0 := 0) (ci := 9) hPc hDc hK hXN rfl rfl) rfl rfl hl.1 rfl (lv_room (Nat.le_of_ble_eq_true rfl)) dX11_near_32 ⟨Nat.le_of_ble_eq_true rfl, Nat.le_of_ble_eq_true rfl⟩) hS hFc hFc rfl (fun t H locs ht hB hk1 hS => ?_)
          obtain ⟨un, dd, S1, hfr, hub, hP1, hD1⟩ := hB
          rw [ht] at hP1
          obtain ⟨hP, hD⟩ := zn (W2 := [(om k0 a I0 (vp_updL (vp_updL J0 48 (jI ((un : Nat) : Int))) 49 (jI ((dd : Nat) : Int)))), _, _, _, _, _, _, (oa (a 32) cI 8 S1)]) hP hD hk1 hFc hP1 hD1 [0, 3, 4, 5, 6, 7] [false, true, true] zl_146 [0, 3, 4, 5, 6, 7] (by decide +kernel) rfl rfl rfl rfl rfl
          clear hk1 hPc hDc hFc hP1 hD1 ht
          refine lv_iload_n hx hb dX11_near_35 rfl (lv_at hl 3 rfl) ?_
          refine lv_if_ne (tgt := 46) hx hb dX11_near_36 rfl (fun c_5 => ?_) (fun c_5 => ?_)
          · have c_5 : ¬ w.toInt = 0 := zc_ne rfl rfl c_5
            refine lv_aload_n hx hb dX11_near_46 rfl (lv_at hl 0 rfl) ?_
            refine va_get (D := (dC, dI)) (ci := 9) (v := .long (jI ((dd : Nat) : Int))) (C := RX11) (T := TX11) (N := 55) hx hb hts inX11 hown hK hP 0 rfl rfl 49 (Nat.le_of_ble_eq_true rfl) (hts _ mw_1208) (fun _ h9 => h9) rfl dX11_near_47 ?_
            obtain ⟨hP9, hD9⟩ := zu_sub (wc := [_, _, _, _, _, _, _, _]) hP hD [true, true, true, true, true, true, true, true] rfl rfl
            rw [hQ9]
            exact W.lret (v := jI ((dd : Nat) : Int)) hx hb hr (fun t ht hW => ⟨⟨_, rfl, (jI ((dd : Nat) : Int)), un, dd, S1, rfl, by rw [ht]; exact hP9, hD9⟩, hS.F ht⟩) hS.2.2 dX11_near_50
          · have c_5 : w.toInt = 0 := zc_eq rfl rfl c_5
            refine lv_aload_n hx hb dX11_near_39 rfl (lv_at hl 0 rfl) ?_
            refine va_get (D := (dC, dI)) (ci := 9) (v := .long (jI ((un : Nat) : Int))) (C := RX11) (T := TX11) (N := 55) hx hb hts inX11 hown hK hP 0 rfl rfl 48 (Nat.le_of_ble_eq_true rfl) (hts _ mw_1207) (fun _ h9 => h9) rfl dX11_near_40 ?_
            refine lv_goto (tgt := 50) hx hb dX11_near_43 rfl ?_
            obtain ⟨hP9, hD9⟩ := zu_sub (wc := [_, _, _, _, _, _, _, _]) hP hD [true, true, true, true, true, true, true, true] rfl rfl
            rw [hQ9]
            exact W.lret (v := jI ((un : Nat) : Int)) hx hb hr (fun t ht hW => ⟨⟨_, rfl, (jI ((un : Nat) : Int)), un, dd, S1, rfl, by rw [ht]; exact hP9, hD9⟩, hS.F ht⟩) hS.2.2 dX11_near_50
        · have c_4 : 1 < w.toInt := zc_nle rfl rfl c_4
          exfalso; omega
end
section
/-! the reference as it is made -/
abbrev oc9 (a : Nat) (v0 : Int32) (v1 : Value) (v2 : Value) (v3 : Value) (v4 : Value) (v5 : Value) (v6 : Value) (v7 : Value) (v8 : Value) (v9 : Value) (v10 : Value) (v11 : Value) (v12 : Value) (v13 : Value) (v14 : Int32) (v15 : Int32) (v16 : Value) (v17 : Value) (v18 : Value) (v19 : Int32) (v20 : Int32) (v21 : Int32) (v22 : Value) (v23 : Value) (v24 : Value) (v25 : Value) (v26 : Int32) (v27 : Value) (v28 : Value) (v29 : Value) (v30 : Value) (v31 : Int32) (v32 : Value) (v33 : Value) (v34 : Value) (v35 : Int32) (v36 : Int32) (v37 : Value) (v38 : Value) (v39 : Value) (v40 : Value) (v41 : Int32) (v42 : Int32) (v43 : Value) (v44 : Int32) (v45 : Int32) (v46 : Int32) (v47 : Int32) (v48 : Int64) (v49 : Int64) (v50 : Value) (v51 : Value) (v52 : Value) (v53 : Value) (v54 : Int32) : Nat × va_E := (a, .inr (9, .int v0 :: v1 :: v2 :: v3 :: v4 :: v5 :: v6 :: v7 :: v8 :: v9 :: v10 :: v11 :: v12 :: v13 :: .int v14 :: .int v15 :: v16 :: v17 :: v18 :: .int v19 :: .int v20 :: .int v21 :: v22 :: v23 :: v24 :: v25 :: .int v26 :: v27 :: v28 :: v29 :: v30 :: .int v31 :: v32 :: v33 :: v34 :: .int v35 :: .int v36 :: v37 :: v38 :: v39 :: v40 :: .int v41 :: .int v42 :: v43 :: .int v44 :: .int v45 :: .int v46 :: .int v47 :: .long v48 :: .long v49 :: v50 :: v51 :: v52 :: v53 :: .int v54 :: []))
end
section
set_option maxHeartbeats 4000000 in
set_option maxRecDepth 100000 in
theorem k_M_init (l : Launch) (dC : Nat → ClassId) (dI : Nat → Nat → Nat) (cI cZ cF : ClassId) (sz : Nat) (k0 : Nat) : zM l yX11_init cX11_init 1 none ({ frames := 1, cells := 36, slots := 34772, locals := 12 } : Room) [.ref k0] (dC, dI) (zTy cI cZ cF) [(oc9 k0 0 .null .null .null .null .null .null .null .null .null .null .null .null .null 0 0 .null .null .null 0 0 0 .null .null .null .null 0 .null .null .null .null 0 .null .null .null 0 0 .null .null .null .null 0 0 .null 0 0 0 0 0 0 .null .null .null .null 0)] sz none (fun A t => ∃ (m1 : Nat), ∃ (m2 : Nat), ∃ (m3 : Nat), ∃ (m4 : Nat), ∃ (m5 : Nat), ∃ (m6 : Nat), ∃ (m7 : Nat), ∃ (m8 : Nat), ∃ (m9 : Nat), ∃ (m10 : Nat), ∃ (m11 : Nat), ∃ (m12 : Nat), ∃ (m13 : Nat), ∃ (m16 : Nat), ∃ (m17 : Nat), ∃ (m18 : Nat), ∃ (m22 : Nat), ∃ (m23 : Nat), ∃ (m24 : Nat), ∃ (m25 : Nat), ∃ (m27 : Nat), ∃ (m28 : Nat), ∃ (m29 : Nat), ∃ (m30 : Nat), ∃ (m32 : Nat), ∃ (m33 : Nat), ∃ (m34 : Nat), ∃ (m37 : Nat), ∃ (m38 : Nat), ∃ (m39 : Nat), ∃ (m40 : Nat), ∃ (m43 : Nat), ∃ (m50 : Nat), ∃ (m51 : Nat), ∃ (m52 : Nat), ∃ (m53 : Nat), zPD (dC, dI) classes A ((oc9 k0 0 (.ref m1) (.ref m2) (.ref m3) (.ref m4) (.ref m5) (.ref m6) (.ref m7) (.ref m8) (.ref m9) (.ref m10) (.ref m11) (.ref m12) (.ref m13) 0 0 (.ref m16) (.ref m17) (.ref m18) 0 0 0 (.ref m22) (.ref m23) (.ref m24) (.ref m25) 0 (.ref m27) (.ref m28) (.ref m29) (.ref m30) 0 (.ref m32) (.ref m33) (.ref m34) 0 0 (.ref m37) (.ref m38) (.ref m39) (.ref m40) 0 0 (.ref m43) 0 0 0 0 0 0 (.ref m50) (.ref m51) (.ref m52) (.ref m53) 0) :: (oa m1 cI 201 (fun _ => 0)) :: (oa m2 cI 201 (fun _ => 0)) :: (oa m3 cI 201 (fun _ => 0)) :: (oa m4 cI 201 (fun _ => 0)) :: (oa m5 cI 201 (fun _ => 0)) :: (oa m6 cZ 201 (fun _ => 0)) :: (oa m7 cI 201 (fun _ => 0)) :: (oa m8 cI 201 (fun _ => 0)) :: (oa m9 cI 201 (fun _ => 0)) :: (oa m10 cI 201 (fun _ => 0)) :: (oa m11 cI 201 (fun _ => 0)) :: (oa m12 cI 8040 (fun _ => 0)) :: (oa m13 cI 8040 (fun _ => 0)) :: (oa m16 cI 514 (fun _ => 0)) :: (oa m17 cI 514 (fun _ => 0)) :: (oa m18 cI 514 (fun _ => 0)) :: (oa m22 cI 64 (fun _ => 0)) :: (oa m23 cI 64 (fun _ => 0)) :: (oa m24 cI 64 (fun _ => 0)) :: (oa m25 cI 64 (fun _ => 0)) :: (oa m27 cI 516 (fun _ => 0)) :: (oa m28 cI 4096 (fun _ => 0)) :: (oa m29 cI 42 (fun _ => 0)) :: (oa m30 cI 42 (fun _ => 0)) :: (oa m32 cI 8 (fun _ => 0)) :: (oa m33 cI 42 (fun _ => 0)) :: (oa m34 cI 42 (fun _ => 0)) :: (oa m37 cZ 201 (fun _ => 0)) :: (oa m38 cZ 201 (fun _ => 0)) :: (oa m39 cZ 8040 (fun _ => 0)) :: (oa m40 cI 6 (fun _ => 0)) :: (oa m43 cZ 40 (fun _ => 0)) :: (oa m50 cZ 201 (fun _ => 0)) :: (oa m51 cI 402 (fun _ => 0)) :: (oa m52 cI 402 (fun _ => 0)) :: (oa m53 cI 402 (fun _ => 0)) :: []) t.heap) 36 34772 := by
  refine zIn (own := "ScaleShopModel") (loc := [(0, .ref k0)]) rfl rfl rfl rfl (fun p e s m below meth c hx hb hr hts hown hlocks hml hnm9 A hA hS hP hD hK hXN Q9 hQ9 ls hl => ?_)
  have hin : meth.name = "<init>" := hnm9
  refine lv_aload_n hx hb dX11_init_0 rfl (lv_at hl 0 rfl) ?_
  refine W.objInit hx hb hown (hts _ mw_1158) (hts _ mw_126) (hts _ mw_objcode) rfl (by rw [hml]; exact hl.1) rfl dX11_init_1 (Nat.le_of_ble_eq_true rfl) (Nat.le_of_ble_eq_true rfl) ?_
  refine W.eq (g2 := F0 m 4 ls []) rfl ?_
  refine lv_aload_n hx hb dX11_init_4 rfl (lv_at hl 0 rfl) ?_
  refine lv_sipush (v := 201) hx hb dX11_init_5 rfl ?_
  refine zz_newa (atype := .int) (a0 := (201, .inl (fun _ => 0))) hx hb (hts _ mw_195) (ty := .int) rfl hK hP hD hS hA (n := nI 201) (N' := 201) (cA := cI) 0 rfl (fun _ => rfl) (nI_pos (by omega)) (nI_clamp (by omega)) (show 201 * 4 ≤ 536870912 by omega) (Nat.le_of_ble_eq_true rfl) (Nat.le_of_ble_eq_true rfl) dX11_init_8 (fun m1 H hP hD hS => ?_)
  obtain ⟨hP, hD⟩ := zre (W2 := [_, (oa m1 cI 201 (fun _ => 0))]) hP hD rfl
  refine va_putF (D := (dC, dI)) (ci := 9) (v := .ref m1) (ty := .array .int) (C := RX11) (T := TX11) (N := 55) hx hb hts inX11 tyX11 tyX11_ok nmX11 hown hK hP hD hS 0 rfl rfl 1 (by decide) (hts _ mw_1160) (fun _ h9 => h9) rfl hin rfl (by decide +kernel) rfl rfl (Nat.le_of_ble_eq_true rfl) dX11_init_10 (fun H locs hP hD hS => ?_)
  obtain ⟨hP, hD⟩ := zre (W2 := [(oc9 k0 0 (.ref m1) .null .null .null .null .null .null .null .null .null .null .null .null 0 0 .null .null .null 0 0 0 .null .null .null .null 0 .null .null .null .null 0 .null .null .null 0 0 .null .null .null .null 0 0 .null 0 0 0 0 0 0 .null .null .null .null 0), _]) hP hD rfl
  refine lv_aload_n hx hb dX11_init_13 rfl (lv_at hl 0 rfl) ?_
  refine lv_sipush (v := 201) hx hb dX11_init_14 rfl ?_
  refine zz_newa (atype := .int) (a0 := (201, .inl (fun _ => 0))) hx hb (hts _ mw_195) (ty := .int) rfl hK hP hD hS hA (n := nI 201) (N' := 201) (cA := cI) 0 rfl (fun _ => rfl) (nI_pos (by omega)) (nI_clamp (by omega)) (show 201 * 4 ≤ 536870912 by omega) (Nat.le_of_ble_eq_true rfl) (Nat.le_of_ble_eq_true rfl) dX11_init_17 (fun m2 H hP hD hS => ?_)
  obtain ⟨hP, hD⟩ := zre (W2 := [_, _, (oa m2 cI 201 (fun _ => 0))]) hP hD rfl
  refine va_putF (D := (dC, dI)) (ci := 9) (v := .ref m2) (ty := .array .int) (C := RX11) (T := TX11) (N := 55) hx hb hts inX11 tyX11 tyX11_ok nmX11 hown hK hP hD hS 0 rfl rfl 2 (by decide) (hts _ mw_1161) (fun _ h9 => h9) rfl hin rfl (by decide +kernel) rfl rfl (Nat.le_of_ble_eq_true rfl) dX11_init_19 (fun H locs hP hD hS => ?_)
  obtain ⟨hP, hD⟩ := zre (W2 := [(oc9 k0 0 (.ref m1) (.ref m2) .null .null .null .null .null .null .null .null .null .null .null 0 0 .null .null .null 0 0 0 .null .null .null .null 0 .null .null .null .null 0 .null .null .null 0 0 .null .null .null .null 0 0 .null 0 0 0 0 0 0 .null .null .null .null 0), _, _]) hP hD rfl
  refine lv_aload_n hx hb dX11_init_22 rfl (lv_at hl 0 rfl) ?_
  refine lv_sipush (v := 201) hx hb dX11_init_23 rfl ?_
  refine zz_newa (atype := .int) (a0 := (201, .inl (fun _ => 0))) hx hb (hts _ mw_195) (ty := .int) rfl hK hP hD hS hA (n := nI 201) (N' := 201) (cA := cI) 0 rfl (fun _ => rfl) (nI_pos (by omega)) (nI_clamp (by omega)) (show 201 * 4 ≤ 536870912 by omega) (Nat.le_of_ble_eq_true rfl) (Nat.le_of_ble_eq_true rfl) dX11_init_26 (fun m3 H hP hD hS => ?_)
  obtain ⟨hP, hD⟩ := zre (W2 := [_, _, _, (oa m3 cI 201 (fun _ => 0))]) hP hD rfl
  refine va_putF (D := (dC, dI)) (ci := 9) (v := .ref m3) (ty := .array .int) (C := RX11) (T := TX11) (N := 55) hx hb hts inX11 tyX11 tyX11_ok nmX11 hown hK hP hD hS 0 rfl rfl 3 (by decide) (hts _ mw_1162) (fun _ h9 => h9) rfl hin rfl (by decide +kernel) rfl rfl (Nat.le_of_ble_eq_true rfl) dX11_init_28 (fun H locs hP hD hS => ?_)
  obtain ⟨hP, hD⟩ := zre (W2 := [(oc9 k0 0 (.ref m1) (.ref m2) (.ref m3) .null .null .null .null .null .null .null .null .null .null 0 0 .null .null .null 0 0 0 .null .null .null .null 0 .null .null .null .null 0 .null .null .null 0 0 .null .null .null .null 0 0 .null 0 0 0 0 0 0 .null .null .null .null 0), _, _, _]) hP hD rfl
  refine lv_aload_n hx hb dX11_init_31 rfl (lv_at hl 0 rfl) ?_
  refine lv_sipush (v := 201) hx hb dX11_init_32 rfl ?_
  refine zz_newa (atype := .int) (a0 := (201, .inl (fun _ => 0))) hx hb (hts _ mw_195) (ty := .int) rfl hK hP hD hS hA (n := nI 201) (N' := 201) (cA := cI) 0 rfl (fun _ => rfl) (nI_pos (by omega)) (nI_clamp (by omega)) (show 201 * 4 ≤ 536870912 by omega) (Nat.le_of_ble_eq_true rfl) (Nat.le_of_ble_eq_true rfl) dX11_init_35 (fun m4 H hP hD hS => ?_)
  obtain ⟨hP, hD⟩ := zre (W2 := [_, _, _, _, (oa m4 cI 201 (fun _ => 0))]) hP hD rfl
  refine va_putF (D := (dC, dI)) (ci := 9) (v := .ref m4) (ty := .array .int) (C := RX11) (T := TX11) (N := 55) hx hb hts inX11 tyX11 tyX11_ok nmX11 hown hK hP hD hS 0 rfl rfl 4 (by decide) (hts _ mw_1163) (fun _ h9 => h9) rfl hin rfl (by decide +kernel) rfl rfl (Nat.le_of_ble_eq_true rfl) dX11_init_37 (fun H locs hP hD hS => ?_)
  obtain ⟨hP, hD⟩ := zre (W2 := [(oc9 k0 0 (.ref m1) (.ref m2) (.ref m3) (.ref m4) .null .null .null .null .null .null .null .null .null 0 0 .null .null .null 0 0 0 .null .null .null .null 0 .null .null .null .null 0 .null .null .null 0 0 .null .null .null .null 0 0 .null 0 0 0 0 0 0 .null .null .null .null 0), _, _, _, _]) hP hD rfl
  refine lv_aload_n hx hb dX11_init_40 rfl (lv_at hl 0 rfl) ?_
  refine lv_sipush (v := 201) hx hb dX11_init_41 rfl ?_
  refine zz_newa (atype := .int) (a0 := (201, .inl (fun _ => 0))) hx hb (hts _ mw_195) (ty := .int) rfl hK hP hD hS hA (n := nI 201) (N' := 201) (cA := cI) 0 rfl (fun _ => rfl) (nI_pos (by omega)) (nI_clamp (by omega)) (show 201 * 4 ≤ 536870912 by omega) (Nat.le_of_ble_eq_true rfl) (Nat.le_of_ble_eq_true rfl) dX11_init_44 (fun m5 H hP hD hS => ?_)
  obtain ⟨hP, hD⟩ := zre (W2 := [_, _, _, _, _, (oa m5 cI 201 (fun _ => 0))]) hP hD rfl
  refine va_putF (D := (dC, dI)) (ci := 9) (v := .ref m5) (ty := .array .int) (C := RX11) (T := TX11) (N := 55) hx hb hts inX11 tyX11 tyX11_ok nmX11 hown hK hP hD hS 0 rfl rfl 5 (by decide) (hts _ mw_1164) (fun _ h9 => h9) rfl hin rfl (by decide +kernel) rfl rfl (Nat.le_of_ble_eq_true rfl) dX11_init_46 (fun H locs hP hD hS => ?_)
  obtain ⟨hP, hD⟩ := zre (W2 := [(oc9 k0 0 (.ref m1) (.ref m2) (.ref m3) (.ref m4) (.ref m5) .null .null .null .null .null .null .null .null 0 0 .null .null .null 0 0 0 .null .null .null .null 0 .null .null .null .null 0 .null .null .null 0 0 .null .null .null .null 0 0 .null 0 0 0 0 0 0 .null .null .null .null 0), _, _, _, _, _]) hP hD rfl
  refine lv_aload_n hx hb dX11_init_49 rfl (lv_at hl 0 rfl) ?_
  refine lv_sipush (v := 201) hx hb dX11_init_50 rfl ?_
  refine zz_newa (atype := .boolean) (a0 := (201, .inl (fun _ => 0))) hx hb (hts _ mw_308) (ty := .boolean) rfl hK hP hD hS hA (n := nI 201) (N' := 201) (cA := cZ) 1 rfl (fun _ => rfl) (nI_pos (by omega)) (nI_clamp (by omega)) (show 201 * 1 ≤ 536870912 by omega) (Nat.le_of_ble_eq_true rfl) (Nat.le_of_ble_eq_true rfl) dX11_init_53 (fun m6 H hP hD hS => ?_)
  obtain ⟨hP, hD⟩ := zre (W2 := [_, _, _, _, _, _, (oa m6 cZ 201 (fun _ => 0))]) hP hD rfl
  refine va_putF (D := (dC, dI)) (ci := 9) (v := .ref m6) (ty := .array .boolean) (C := RX11) (T := TX11) (N := 55) hx hb hts inX11 tyX11 tyX11_ok nmX11 hown hK hP hD hS 0 rfl rfl 6 (by decide) (hts _ mw_1165) (fun _ h9 => h9) rfl hin rfl (by decide +kernel) rfl rfl (Nat.le_of_ble_eq_true rfl) dX11_init_55 (fun H locs hP hD hS => ?_)
  obtain ⟨hP, hD⟩ := zre (W2 := [(oc9 k0 0 (.ref m1) (.ref m2) (.ref m3) (.ref m4) (.ref m5) (.ref m6) .null .null .null .null .null .null .null 0 0 .null .null .null 0 0 0 .null .null .null .null 0 .null .null .null .null 0 .null .null .null 0 0 .null .null .null .null 0 0 .null 0 0 0 0 0 0 .null .null .null .null 0), _, _, _, _, _, _]) hP hD rfl
  refine lv_aload_n hx hb dX11_init_58 rfl (lv_at hl 0 rfl) ?_
  refine lv_sipush (v := 201) hx hb dX11_init_59 rfl ?_
  refine zz_newa (atype := .int) (a0 := (201, .inl (fun _ => 0))) hx hb (hts _ mw_195) (ty := .int) rfl hK hP hD hS hA (n := nI 201) (N' := 201) (cA := cI) 0 rfl (fun _ => rfl) (nI_pos (by omega)) (nI_clamp (by omega)) (show 201 * 4 ≤ 536870912 by omega) (Nat.le_of_ble_eq_true rfl) (Nat.le_of_ble_eq_true rfl) dX11_init_62 (fun m7 H hP hD hS => ?_)
  obtain ⟨hP, hD⟩ := zre (W2 := [_, _, _, _, _, _, _, (oa m7 cI 201 (fun _ => 0))]) hP hD rfl
  refine va_putF (D := (dC, dI)) (ci := 9) (v := .ref m7) (ty := .array .int) (C := RX11) (T := TX11) (N := 55) hx hb hts inX11 tyX11 tyX11_ok nmX11 hown hK hP hD hS 0 rfl rfl 7 (by decide) (hts _ mw_1166) (fun _ h9 => h9) rfl hin rfl (by decide +kernel) rfl rfl (Nat.le_of_ble_eq_true rfl) dX11_init_64 (fun H locs hP hD hS => ?_)
  obtain ⟨hP, hD⟩ := zre (W2 := [(oc9 k0 0 (.ref m1) (.ref m2) (.ref m3) (.ref m4) (.ref m5) (.ref m6) (.ref m7) .null .null .null .null .null .null 0 0 .null .null .null 0 0 0 .null .null .null .null 0 .null .null .null .null 0 .null .null .null 0 0 .null .null .null .null 0 0 .null 0 0 0 0 0 0 .null .null .null .null 0), _, _, _, _, _, _, _]) hP hD rfl
  refine lv_aload_n hx hb dX11_init_67 rfl (lv_at hl 0 rfl) ?_
  refine lv_sipush (v := 201) hx hb dX11_init_68 rfl ?_
  refine zz_newa (atype := .int) (a0 := (201, .inl (fun _ => 0))) hx hb (hts _ mw_195) (ty := .int) rfl hK hP hD hS hA (n := nI 201) (N' := 201) (cA := cI) 0 rfl (fun _ => rfl) (nI_pos (by omega)) (nI_clamp (by omega)) (show 201 * 4 ≤ 536870912 by omega) (Nat.le_of_ble_eq_true rfl) (Nat.le_of_ble_eq_true rfl) dX11_init_71 (fun m8 H hP hD hS => ?_)
  obtain ⟨hP, hD⟩ := zre (W2 := [_, _, _, _, _, _, _, _, (oa m8 cI 201 (fun _ => 0))]) hP hD rfl
  refine va_putF (D := (dC, dI)) (ci := 9) (v := .ref m8) (ty := .array .int) (C := RX11) (T := TX11) (N := 55) hx hb hts inX11 tyX11 tyX11_ok nmX11 hown hK hP hD hS 0 rfl rfl 8 (by decide) (hts _ mw_1167) (fun _ h9 => h9) rfl hin rfl (by decide +kernel) rfl rfl (Nat.le_of_ble_eq_true rfl) dX11_init_73 (fun H locs hP hD hS => ?_)
  obtain ⟨hP, hD⟩ := zre (W2 := [(oc9 k0 0 (.ref m1) (.ref m2) (.ref m3) (.ref m4) (.ref m5) (.ref m6) (.ref m7) (.ref m8) .null .null .null .null .null 0 0 .null .null .null 0 0 0 .null .null .null .null 0 .null .null .null .null 0 .null .null .null 0 0 .null .null .null .null 0 0 .null 0 0 0 0 0 0 .null .null .null .null 0), _, _, _, _, _, _, _, _]) hP hD rfl
  refine lv_aload_n hx hb dX11_init_76 rfl (lv_at hl 0 rfl) ?_
  refine lv_sipush (v := 201) hx hb dX11_init_77 rfl ?_
  refine zz_newa (atype := .int) (a0 := (201, .inl (fun _ => 0))) hx hb (hts _ mw_195) (ty := .int) rfl hK hP hD hS hA (n := nI 201) (N' := 201) (cA := cI) 0 rfl (fun _ => rfl) (nI_pos (by omega)) (nI_clamp (by omega)) (show 201 * 4 ≤ 536870912 by omega) (Nat.le_of_ble_eq_true rfl) (Nat.le_of_ble_eq_true rfl) dX11_init_80 (fun m9 H hP hD hS => ?_)
  obtain ⟨hP, hD⟩ := zre (W2 := [_, _, _, _, _, _, _, _, _, (oa m9 cI 201 (fun _ => 0))]) hP hD rfl
  refine va_putF (D := (dC, dI)) (ci := 9) (v := .ref m9) (ty := .array .int) (C := RX11) (T := TX11) (N := 55) hx hb hts inX11 tyX11 tyX11_ok nmX11 hown hK hP hD hS 0 rfl rfl 9 (by decide) (hts _ mw_1168) (fun _ h9 => h9) rfl hin rfl (by decide +kernel) rfl rfl (Nat.le_of_ble_eq_true rfl) dX11_init_82 (fun H locs hP hD hS => ?_)
  obtain ⟨hP, hD⟩ := zre (W2 := [(oc9 k0 0 (.ref m1) (.ref m2) (.ref m3) (.ref m4) (.ref m5) (.ref m6) (.ref m7) (.ref m8) (.ref m9) .null .null .null .null 0 0 .null .null .null 0 0 0 .null .null .null .null 0 .null .null .null .null 0 .null .null .null 0 0 .null .null .null .null 0 0 .null 0 0 0 0 0 0 .null .null .null .null 0), _, _, _, _, _, _, _, _, _]) hP hD rfl
  refine lv_aload_n hx hb dX11_init_85 rfl (lv_at hl 0 rfl) ?_
  refine lv_sipush (v := 201) hx hb dX11_init_86 rfl ?_
  refine zz_newa (atype := .int) (a0 := (201, .inl (fun _ => 0))) hx hb (hts _ mw_195) (ty := .int) rfl hK hP hD hS hA (n := nI 201) (N' := 201) (cA := cI) 0 rfl (fun _ => rfl) (nI_pos (by omega)) (nI_clamp (by omega)) (show 201 * 4 ≤ 536870912 by omega) (Nat.le_of_ble_eq_true rfl) (Nat.le_of_ble_eq_true rfl) dX11_init_89 (fun m10 H hP hD hS => ?_)
  obtain ⟨hP, hD⟩ := zre (W2 := [_, _, _, _, _, _, _, _, _, _, (oa m10 cI 201 (fun _ => 0))]) hP hD rfl
  refine va_putF (D := (dC, dI)) (ci := 9) (v := .ref m10) (ty := .array .int) (C := RX11) (T := TX11) (N := 55) hx hb hts inX11 tyX11 tyX11_ok nmX11 hown hK hP hD hS 0 rfl rfl 10 (by decide) (hts _ mw_1169) (fun _ h9 => h9) rfl hin rfl (by decide +kernel) rfl rfl (Nat.le_of_ble_eq_true rfl) dX11_init_91 (fun H locs hP hD hS => ?_)
  obtain ⟨hP, hD⟩ := zre (W2 := [(oc9 k0 0 (.ref m1) (.ref m2) (.ref m3) (.ref m4) (.ref m5) (.ref m6) (.ref m7) (.ref m8) (.ref m9) (.ref m10) .null .null .null 0 0 .null .null .null 0 0 0 .null .null .null .null 0 .null .null .null .null 0 .null .null .null 0 0 .null .null .null .null 0 0 .null 0 0 0 0 0 0 .null .null .null .null 0), _, _, _, _, _, _, _, _, _, _]) hP hD rfl
  refine lv_aload_n hx hb dX11_init_94 rfl (lv_at hl 0 rfl) ?_
  refine lv_sipush (v := 201) hx hb dX11_init_95 rfl ?_
  refine zz_newa (atype := .int) (a0 := (201, .inl (fun _ => 0))) hx hb (hts _ mw_195) (ty := .int) rfl hK hP hD hS hA (n := nI 201) (N' := 201) (cA := cI) 0 rfl (fun _ => rfl) (nI_pos (by omega)) (nI_clamp (by omega)) (show 201 * 4 ≤ 536870912 by omega) (Nat.le_of_ble_eq_true rfl) (Nat.le_of_ble_eq_true rfl) dX11_init_98 (fun m11 H hP hD hS => ?_)
  obtain ⟨hP, hD⟩ := zre (W2 := [_, _, _, _, _, _, _, _, _, _, _, (oa m11 cI 201 (fun _ => 0))]) hP hD rfl
  refine va_putF (D := (dC, dI)) (ci := 9) (v := .ref m11) (ty := .array .int) (C := RX11) (T := TX11) (N := 55) hx hb hts inX11 tyX11 tyX11_ok nmX11 hown hK hP hD hS 0 rfl rfl 11 (by decide) (hts _ mw_1170) (fun _ h9 => h9) rfl hin rfl (by decide +kernel) rfl rfl (Nat.le_of_ble_eq_true rfl) dX11_init_100 (fun H locs hP hD hS => ?_)
  obtain ⟨hP, hD⟩ := zre (W2 := [(oc9 k0 0 (.ref m1) (.ref m2) (.ref m3) (.ref m4) (.ref m5) (.ref m6) (.ref m7) (.ref m8) (.ref m9) (.ref m10) (.ref m11) .null .null 0 0 .null .null .null 0 0 0 .null .null .null .null 0 .null .null .null .null 0 .null .null .null 0 0 .null .null .null .null 0 0 .null 0 0 0 0 0 0 .null .null .null .null 0), _, _, _, _, _, _, _, _, _, _, _]) hP hD rfl
  refine lv_aload_n hx hb dX11_init_103 rfl (lv_at hl 0 rfl) ?_
  refine lv_sipush (v := 8040) hx hb dX11_init_104 rfl ?_
  refine zz_newa (atype := .int) (a0 := (8040, .inl (fun _ => 0))) hx hb (hts _ mw_195) (ty := .int) rfl hK hP hD hS hA (n := nI 8040) (N' := 8040) (cA := cI) 0 rfl (fun _ => rfl) (nI_pos (by omega)) (nI_clamp (by omega)) (show 8040 * 4 ≤ 536870912 by omega) (Nat.le_of_ble_eq_true rfl) (Nat.le_of_ble_eq_true rfl) dX11_init_107 (fun m12 H hP hD hS => ?_)
  obtain ⟨hP, hD⟩ := zre (W2 := [_, _, _, _, _, _, _, _, _, _, _, _, (oa m12 cI 8040 (fun _ => 0))]) hP hD rfl
  refine va_putF (D := (dC, dI)) (ci := 9) (v := .ref m12) (ty := .array .int) (C := RX11) (T := TX11) (N := 55) hx hb hts inX11 tyX11 tyX11_ok nmX11 hown hK hP hD hS 0 rfl rfl 12 (by decide) (hts _ mw_1171) (fun _ h9 => h9) rfl hin rfl (by decide +kernel) rfl rfl (Nat.le_of_ble_eq_true rfl) dX11_init_109 (fun H locs hP hD hS => ?_)
  obtain ⟨hP, hD⟩ := zre (W2 := [(oc9 k0 0 (.ref m1) (.ref m2) (.ref m3) (.ref m4) (.ref m5) (.ref m6) (.ref m7) (.ref m8) (.ref m9) (.ref m10) (.ref m11) (.ref m12) .null 0 0 .null .null .null 0 0 0 .null .null .null .null 0 .null .null .null .null 0 .null .null .null 0 0 .null .null .null .null 0 0 .null 0 0 0 0 0 0 .null .null .null .null 0), _, _, _, _, _, _, _, _, _, _, _, _]) hP hD rfl
  refine lv_aload_n hx hb dX11_init_112 rfl (lv_at hl 0 rfl) ?_
  refine lv_sipush (v := 8040) hx hb dX11_init_113 rfl ?_
  refine zz_newa (atype := .int) (a0 := (8040, .inl (fun _ => 0))) hx hb (hts _ mw_195) (ty := .int) rfl hK hP hD hS hA (n := nI 8040) (N' := 8040) (cA := cI) 0 rfl (fun _ => rfl) (nI_pos (by omega)) (nI_clamp (by omega)) (show 8040 * 4 ≤ 536870912 by omega) (Nat.le_of_ble_eq_true rfl) (Nat.le_of_ble_eq_true rfl) dX11_init_116 (fun m13 H hP hD hS => ?_)
  obtain ⟨hP, hD⟩ := zre (W2 := [_, _, _, _, _, _, _, _, _, _, _, _, _, (oa m13 cI 8040 (fun _ => 0))]) hP hD rfl
  refine va_putF (D := (dC, dI)) (ci := 9) (v := .ref m13) (ty := .array .int) (C := RX11) (T := TX11) (N := 55) hx hb hts inX11 tyX11 tyX11_ok nmX11 hown hK hP hD hS 0 rfl rfl 13 (by decide) (hts _ mw_1172) (fun _ h9 => h9) rfl hin rfl (by decide +kernel) rfl rfl (Nat.le_of_ble_eq_true rfl) dX11_init_118 (fun H locs hP hD hS => ?_)
  obtain ⟨hP, hD⟩ := zre (W2 := [(oc9 k0 0 (.ref m1) (.ref m2) (.ref m3) (.ref m4) (.ref m5) (.ref m6) (.ref m7) (.ref m8) (.ref m9) (.ref m10) (.ref m11) (.ref m12) (.ref m13) 0 0 .null .null .null 0 0 0 .null .null .null .null 0 .null .null .null .null 0 .null .null .null 0 0 .null .null .null .null 0 0 .null 0 0 0 0 0 0 .null .null .null .null 0), _, _, _, _, _, _, _, _, _, _, _, _, _]) hP hD rfl
  refine lv_aload_n hx hb dX11_init_121 rfl (lv_at hl 0 rfl) ?_
  refine lv_sipush (v := 514) hx hb dX11_init_122 rfl ?_
  refine zz_newa (atype := .int) (a0 := (514, .inl (fun _ => 0))) hx hb (hts _ mw_195) (ty := .int) rfl hK hP hD hS hA (n := nI 514) (N' := 514) (cA := cI) 0 rfl (fun _ => rfl) (nI_pos (by omega)) (nI_clamp (by omega)) (show 514 * 4 ≤ 536870912 by omega) (Nat.le_of_ble_eq_true rfl) (Nat.le_of_ble_eq_true rfl) dX11_init_125 (fun m16 H hP hD hS => ?_)
  obtain ⟨hP, hD⟩ := zre (W2 := [_, _, _, _, _, _, _, _, _, _, _, _, _, _, (oa m16 cI 514 (fun _ => 0))]) hP hD rfl
  refine va_putF (D := (dC, dI)) (ci := 9) (v := .ref m16) (ty := .array .int) (C := RX11) (T := TX11) (N := 55) hx hb hts inX11 tyX11 tyX11_ok nmX11 hown hK hP hD hS 0 rfl rfl 16 (by decide) (hts _ mw_1175) (fun _ h9 => h9) rfl hin rfl (by decide +kernel) rfl rfl (Nat.le_of_ble_eq_true rfl) dX11_init_127 (fun H locs hP hD hS => ?_)
  obtain ⟨hP, hD⟩ := zre (W2 := [(oc9 k0 0 (.ref m1) (.ref m2) (.ref m3) (.ref m4) (.ref m5) (.ref m6) (.ref m7) (.ref m8) (.ref m9) (.ref m10) (.ref m11) (.ref m12) (.ref m13) 0 0 (.ref m16) .null .null 0 0 0 .null .null .null .null 0 .null .null .null .null 0 .null .null .null 0 0 .null .null .null .null 0 0 .null 0 0 0 0 0 0 .null .null .null .null 0), _, _, _, _, _, _, _, _, _, _, _, _, _, _]) hP hD rfl
  refine lv_aload_n hx hb dX11_init_130 rfl (lv_at hl 0 rfl) ?_
  refine lv_sipush (v := 514) hx hb dX11_init_131 rfl ?_
  refine zz_newa (atype := .int) (a0 := (514, .inl (fun _ => 0))) hx hb (hts _ mw_195) (ty := .int) rfl hK hP hD hS hA (n := nI 514) (N' := 514) (cA := cI) 0 rfl (fun _ => rfl) (nI_pos (by omega)) (nI_clamp (by omega)) (show 514 * 4 ≤ 536870912 by omega) (Nat.le_of_ble_eq_true rfl) (Nat.le_of_ble_eq_true rfl) dX11_init_134 (fun m17 H hP hD hS => ?_)
  obtain ⟨hP, hD⟩ := zre (W2 := [_, _, _, _, _, _, _, _, _, _, _, _, _, _, _, (oa m17 cI 514 (fun _ => 0))]) hP hD rfl
  refine va_putF (D := (dC, dI)) (ci := 9) (v := .ref m17) (ty := .array .int) (C := RX11) (T := TX11) (N := 55) hx hb hts inX11 tyX11 tyX11_ok nmX11 hown hK hP hD hS 0 rfl rfl 17 (by decide) (hts _ mw_1176) (fun _ h9 => h9) rfl hin rfl (by decide +kernel) rfl rfl (Nat.le_of_ble_eq_true rfl) dX11_init_136 (fun H locs hP hD hS => ?_)
  obtain ⟨hP, hD⟩ := zre (W2 := [(oc9 k0 0 (.ref m1) (.ref m2) (.ref m3) (.ref m4) (.ref m5) (.ref m6) (.ref m7) (.ref m8) (.ref m9) (.ref m10) (.ref m11) (.ref m12) (.ref m13) 0 0 (.ref m16) (.ref m17) .null 0 0 0 .null .null .null .null 0 .null .null .null .null 0 .null .null .null 0 0 .null .null .null .null 0 0 .null 0 0 0 0 0 0 .null .null .null .null 0), _, _, _, _, _, _, _, _, _, _, _, _, _, _, _]) hP hD rfl
  refine lv_aload_n hx hb dX11_init_139 rfl (lv_at hl 0 rfl) ?_
  refine lv_sipush (v := 514) hx hb dX11_init_140 rfl ?_
  refine zz_newa (atype := .int) (a0 := (514, .inl (fun _ => 0))) hx hb (hts _ mw_195) (ty := .int) rfl hK hP hD hS hA (n := nI 514) (N' := 514) (cA := cI) 0 rfl (fun _ => rfl) (nI_pos (by omega)) (nI_clamp (by omega)) (show 514 * 4 ≤ 536870912 by omega) (Nat.le_of_ble_eq_true rfl) (Nat.le_of_ble_eq_true rfl) dX11_init_143 (fun m18 H hP hD hS => ?_)
  obtain ⟨hP, hD⟩ := zre (W2 := [_, _, _, _, _, _, _, _, _, _, _, _, _, _, _, _, (oa m18 cI 514 (fun _ => 0))]) hP hD rfl
  refine va_putF (D := (dC, dI)) (ci := 9) (v := .ref m18) (ty := .array .int) (C := RX11) (T := TX11) (N := 55) hx hb hts inX11 tyX11 tyX11_ok nmX11 hown hK hP hD hS 0 rfl rfl 18 (by decide) (hts _ mw_1177) (fun _ h9 => h9) rfl hin rfl (by decide +kernel) rfl rfl (Nat.le_of_ble_eq_true rfl) dX11_init_145 (fun H locs hP hD hS => ?_)
  obtain ⟨hP, hD⟩ := zre (W2 := [(oc9 k0 0 (.ref m1) (.ref m2) (.ref m3) (.ref m4) (.ref m5) (.ref m6) (.ref m7) (.ref m8) (.ref m9) (.ref m10) (.ref m11) (.ref m12) (.ref m13) 0 0 (.ref m16) (.ref m17) (.ref m18) 0 0 0 .null .null .null .null 0 .null .null .null .null 0 .null .null .null 0 0 .null .null .null .null 0 0 .null 0 0 0 0 0 0 .null .null .null .null 0), _, _, _, _, _, _, _, _, _, _, _, _, _, _, _, _]) hP hD rfl
  refine lv_aload_n hx hb dX11_init_148 rfl (lv_at hl 0 rfl) ?_
  refine lv_bipush (v := 64) hx hb dX11_init_149 rfl ?_
  refine zz_newa (atype := .int) (a0 := (64, .inl (fun _ => 0))) hx hb (hts _ mw_195) (ty := .int) rfl hK hP hD hS hA (n := nI 64) (N' := 64) (cA := cI) 0 rfl (fun _ => rfl) (nI_pos (by omega)) (nI_clamp (by omega)) (show 64 * 4 ≤ 536870912 by omega) (Nat.le_of_ble_eq_true rfl) (Nat.le_of_ble_eq_true rfl) dX11_init_151 (fun m22 H hP hD hS => ?_)
  obtain ⟨hP, hD⟩ := zre (W2 := [_, _, _, _, _, _, _, _, _, _, _, _, _, _, _, _, _, (oa m22 cI 64 (fun _ => 0))]) hP hD rfl
  refine va_put (D := (dC, dI)) (ci := 9) (v := .ref m22) (ty := .array .int) (C := RX11) (T := TX11) (N := 55) hx hb hts inX11 tyX11 tyX11_ok nmX11 hown hK hP hD hS 0 rfl rfl 22 (by decide) (hts _ mw_1181) (fun _ h9 => h9) rfl (by decide +kernel) rfl rfl (Nat.le_of_ble_eq_true rfl) dX11_init_153 (fun H locs hP hD hS => ?_)
  obtain ⟨hP, hD⟩ := zre (W2 := [(oc9 k0 0 (.ref m1) (.ref m2) (.ref m3) (.ref m4) (.ref m5) (.ref m6) (.ref m7) (.ref m8) (.ref m9) (.ref m10) (.ref m11) (.ref m12) (.ref m13) 0 0 (.ref m16) (.ref m17) (.ref m18) 0 0 0 (.ref m22) .null .null .null 0 .null .null .null .null 0 .null .null .null 0 0 .null .null .null .null 0 0 .null 0 0 0 0 0 0 .null .null .null .null 0), _, _, _, _, _, _, _, _, _, _, _, _, _, _, _, _, _]) hP hD rfl
  refine lv_aload_n hx hb dX11_init_156 rfl (lv_at hl 0 rfl) ?_
  refine lv_bipush (v := 64) hx hb dX11_init_157 rfl ?_
  refine zz_newa (atype := .int) (a0 := (64, .inl (fun _ => 0))) hx hb (hts _ mw_195) (ty := .int) rfl hK hP hD hS hA (n := nI 64) (N' := 64) (cA := cI) 0 rfl (fun _ => rfl) (nI_pos (by omega)) (nI_clamp (by omega)) (show 64 * 4 ≤ 536870912 by omega) (Nat.le_of_ble_eq_true rfl) (Nat.le_of_ble_eq_true rfl) dX11_init_159 (fun m23 H hP hD hS => ?_)
  obtain ⟨hP, hD⟩ := zre (W2 := [_, _, _, _, _, _, _, _, _, _, _, _, _, _, _, _, _, _, (oa m23 cI 64 (fun _ => 0))]) hP hD rfl
  refine va_put (D := (dC, dI)) (ci := 9) (v := .ref m23) (ty := .array .int) (C := RX11) (T := TX11) (N := 55) hx hb hts inX11 tyX11 tyX11_ok nmX11 hown hK hP hD hS 0 rfl rfl 23 (by decide) (hts _ mw_1182) (fun _ h9 => h9) rfl (by decide +kernel) rfl rfl (Nat.le_of_ble_eq_true rfl) dX11_init_161 (fun H locs hP hD hS => ?_)
  obtain ⟨hP, hD⟩ := zre (W2 := [(oc9 k0 0 (.ref m1) (.ref m2) (.ref m3) (.ref m4) (.ref m5) (.ref m6) (.ref m7) (.ref m8) (.ref m9) (.ref m10) (.ref m11) (.ref m12) (.ref m13) 0 0 (.ref m16) (.ref m17) (.ref m18) 0 0 0 (.ref m22) (.ref m23) .null .null 0 .null .null .null .null 0 .null .null .null 0 0 .null .null .null .null 0 0 .null 0 0 0 0 0 0 .null .null .null .null 0), _, _, _, _, _, _, _, _, _, _, _, _, _, _, _, _, _, _]) hP hD rfl
  refine lv_aload_n hx hb dX11_init_164 rfl (lv_at hl 0 rfl) ?_
  refine lv_bipush (v := 64) hx hb dX11_init_165 rfl ?_
  refine zz_newa (atype := .int) (a0 := (64, .inl (fun _ => 0))) hx hb (hts _ mw_195) (ty := .int) rfl hK hP hD hS hA (n := nI 64) (N' := 64) (cA := cI) 0 rfl (fun _ => rfl) (nI_pos (by omega)) (nI_clamp (by omega)) (show 64 * 4 ≤ 536870912 by omega) (Nat.le_of_ble_eq_true rfl) (Nat.le_of_ble_eq_true rfl) dX11_init_167 (fun m24 H hP hD hS => ?_)
  obtain ⟨hP, hD⟩ := zre (W2 := [_, _, _, _, _, _, _, _, _, _, _, _, _, _, _, _, _, _, _, (oa m24 cI 64 (fun _ => 0))]) hP hD rfl
  refine va_put (D := (dC, dI)) (ci := 9) (v := .ref m24) (ty := .array .int) (C := RX11) (T := TX11) (N := 55) hx hb hts inX11 tyX11 tyX11_ok nmX11 hown hK hP hD hS 0 rfl rfl 24 (by decide) (hts _ mw_1183) (fun _ h9 => h9) rfl (by decide +kernel) rfl rfl (Nat.le_of_ble_eq_true rfl) dX11_init_169 (fun H locs hP hD hS => ?_)
  obtain ⟨hP, hD⟩ := zre (W2 := [(oc9 k0 0 (.ref m1) (.ref m2) (.ref m3) (.ref m4) (.ref m5) (.ref m6) (.ref m7) (.ref m8) (.ref m9) (.ref m10) (.ref m11) (.ref m12) (.ref m13) 0 0 (.ref m16) (.ref m17) (.ref m18) 0 0 0 (.ref m22) (.ref m23) (.ref m24) .null 0 .null .null .null .null 0 .null .null .null 0 0 .null .null .null .null 0 0 .null 0 0 0 0 0 0 .null .null .null .null 0), _, _, _, _, _, _, _, _, _, _, _, _, _, _, _, _, _, _, _]) hP hD rfl
  refine lv_aload_n hx hb dX11_init_172 rfl (lv_at hl 0 rfl) ?_
  refine lv_bipush (v := 64) hx hb dX11_init_173 rfl ?_
  refine zz_newa (atype := .int) (a0 := (64, .inl (fun _ => 0))) hx hb (hts _ mw_195) (ty := .int) rfl hK hP hD hS hA (n := nI 64) (N' := 64) (cA := cI) 0 rfl (fun _ => rfl) (nI_pos (by omega)) (nI_clamp (by omega)) (show 64 * 4 ≤ 536870912 by omega) (Nat.le_of_ble_eq_true rfl) (Nat.le_of_ble_eq_true rfl) dX11_init_175 (fun m25 H hP hD hS => ?_)
  obtain ⟨hP, hD⟩ := zre (W2 := [_, _, _, _, _, _, _, _, _, _, _, _, _, _, _, _, _, _, _, _, (oa m25 cI 64 (fun _ => 0))]) hP hD rfl
  refine va_put (D := (dC, dI)) (ci := 9) (v := .ref m25) (ty := .array .int) (C := RX11) (T := TX11) (N := 55) hx hb hts inX11 tyX11 tyX11_ok nmX11 hown hK hP hD hS 0 rfl rfl 25 (by decide) (hts _ mw_1184) (fun _ h9 => h9) rfl (by decide +kernel) rfl rfl (Nat.le_of_ble_eq_true rfl) dX11_init_177 (fun H locs hP hD hS => ?_)
  obtain ⟨hP, hD⟩ := zre (W2 := [(oc9 k0 0 (.ref m1) (.ref m2) (.ref m3) (.ref m4) (.ref m5) (.ref m6) (.ref m7) (.ref m8) (.ref m9) (.ref m10) (.ref m11) (.ref m12) (.ref m13) 0 0 (.ref m16) (.ref m17) (.ref m18) 0 0 0 (.ref m22) (.ref m23) (.ref m24) (.ref m25) 0 .null .null .null .null 0 .null .null .null 0 0 .null .null .null .null 0 0 .null 0 0 0 0 0 0 .null .null .null .null 0), _, _, _, _, _, _, _, _, _, _, _, _, _, _, _, _, _, _, _, _]) hP hD rfl
  refine lv_aload_n hx hb dX11_init_180 rfl (lv_at hl 0 rfl) ?_
  refine lv_sipush (v := 516) hx hb dX11_init_181 rfl ?_
  refine zz_newa (atype := .int) (a0 := (516, .inl (fun _ => 0))) hx hb (hts _ mw_195) (ty := .int) rfl hK hP hD hS hA (n := nI 516) (N' := 516) (cA := cI) 0 rfl (fun _ => rfl) (nI_pos (by omega)) (nI_clamp (by omega)) (show 516 * 4 ≤ 536870912 by omega) (Nat.le_of_ble_eq_true rfl) (Nat.le_of_ble_eq_true rfl) dX11_init_184 (fun m27 H hP hD hS => ?_)
  obtain ⟨hP, hD⟩ := zre (W2 := [_, _, _, _, _, _, _, _, _, _, _, _, _, _, _, _, _, _, _, _, _, (oa m27 cI 516 (fun _ => 0))]) hP hD rfl
  refine va_putF (D := (dC, dI)) (ci := 9) (v := .ref m27) (ty := .array .int) (C := RX11) (T := TX11) (N := 55) hx hb hts inX11 tyX11 tyX11_ok nmX11 hown hK hP hD hS 0 rfl rfl 27 (by decide) (hts _ mw_1186) (fun _ h9 => h9) rfl hin rfl (by decide +kernel) rfl rfl (Nat.le_of_ble_eq_true rfl) dX11_init_186 (fun H locs hP hD hS => ?_)
  obtain ⟨hP, hD⟩ := zre (W2 := [(oc9 k0 0 (.ref m1) (.ref m2) (.ref m3) (.ref m4) (.ref m5) (.ref m6) (.ref m7) (.ref m8) (.ref m9) (.ref m10) (.ref m11) (.ref m12) (.ref m13) 0 0 (.ref m16) (.ref m17) (.ref m18) 0 0 0 (.ref m22) (.ref m23) (.ref m24) (.ref m25) 0 (.ref m27) .null .null .null 0 .null .null .null 0 0 .null .null .null .null 0 0 .null 0 0 0 0 0 0 .null .null .null .null 0), _, _, _, _, _, _, _, _, _, _, _, _, _, _, _, _, _, _, _, _, _]) hP hD rfl
  refine lv_aload_n hx hb dX11_init_189 rfl (lv_at hl 0 rfl) ?_
  refine lv_sipush (v := 4096) hx hb dX11_init_190 rfl ?_
  refine zz_newa (atype := .int) (a0 := (4096, .inl (fun _ => 0))) hx hb (hts _ mw_195) (ty := .int) rfl hK hP hD hS hA (n := nI 4096) (N' := 4096) (cA := cI) 0 rfl (fun _ => rfl) (nI_pos (by omega)) (nI_clamp (by omega)) (show 4096 * 4 ≤ 536870912 by omega) (Nat.le_of_ble_eq_true rfl) (Nat.le_of_ble_eq_true rfl) dX11_init_193 (fun m28 H hP hD hS => ?_)
  obtain ⟨hP, hD⟩ := zre (W2 := [_, _, _, _, _, _, _, _, _, _, _, _, _, _, _, _, _, _, _, _, _, _, (oa m28 cI 4096 (fun _ => 0))]) hP hD rfl
  refine va_put (D := (dC, dI)) (ci := 9) (v := .ref m28) (ty := .array .int) (C := RX11) (T := TX11) (N := 55) hx hb hts inX11 tyX11 tyX11_ok nmX11 hown hK hP hD hS 0 rfl rfl 28 (by decide) (hts _ mw_1187) (fun _ h9 => h9) rfl (by decide +kernel) rfl rfl (Nat.le_of_ble_eq_true rfl) dX11_init_195 (fun H locs hP hD hS => ?_)
  obtain ⟨hP, hD⟩ := zre (W2 := [(oc9 k0 0 (.ref m1) (.ref m2) (.ref m3) (.ref m4) (.ref m5) (.ref m6) (.ref m7) (.ref m8) (.ref m9) (.ref m10) (.ref m11) (.ref m12) (.ref m13) 0 0 (.ref m16) (.ref m17) (.ref m18) 0 0 0 (.ref m22) (.ref m23) (.ref m24) (.ref m25) 0 (.ref m27) (.ref m28) .null .null 0 .null .null .null 0 0 .null .null .null .null 0 0 .null 0 0 0 0 0 0 .null .null .null .null 0), _, _, _, _, _, _, _, _, _, _, _, _, _, _, _, _, _, _, _, _, _, _]) hP hD rfl
  refine lv_aload_n hx hb dX11_init_198 rfl (lv_at hl 0 rfl) ?_
  refine lv_bipush (v := 42) hx hb dX11_init_199 rfl ?_
  refine zz_newa (atype := .int) (a0 := (42, .inl (fun _ => 0))) hx hb (hts _ mw_195) (ty := .int) rfl hK hP hD hS hA (n := nI 42) (N' := 42) (cA := cI) 0 rfl (fun _ => rfl) (nI_pos (by omega)) (nI_clamp (by omega)) (show 42 * 4 ≤ 536870912 by omega) (Nat.le_of_ble_eq_true rfl) (Nat.le_of_ble_eq_true rfl) dX11_init_201 (fun m29 H hP hD hS => ?_)
  obtain ⟨hP, hD⟩ := zre (W2 := [_, _, _, _, _, _, _, _, _, _, _, _, _, _, _, _, _, _, _, _, _, _, _, (oa m29 cI 42 (fun _ => 0))]) hP hD rfl
  refine va_putF (D := (dC, dI)) (ci := 9) (v := .ref m29) (ty := .array .int) (C := RX11) (T := TX11) (N := 55) hx hb hts inX11 tyX11 tyX11_ok nmX11 hown hK hP hD hS 0 rfl rfl 29 (by decide) (hts _ mw_1188) (fun _ h9 => h9) rfl hin rfl (by decide +kernel) rfl rfl (Nat.le_of_ble_eq_true rfl) dX11_init_203 (fun H locs hP hD hS => ?_)
  obtain ⟨hP, hD⟩ := zre (W2 := [(oc9 k0 0 (.ref m1) (.ref m2) (.ref m3) (.ref m4) (.ref m5) (.ref m6) (.ref m7) (.ref m8) (.ref m9) (.ref m10) (.ref m11) (.ref m12) (.ref m13) 0 0 (.ref m16) (.ref m17) (.ref m18) 0 0 0 (.ref m22) (.ref m23) (.ref m24) (.ref m25) 0 (.ref m27) (.ref m28) (.ref m29) .null 0 .null .null .null 0 0 .null .null .null .null 0 0 .null 0 0 0 0 0 0 .null .null .null .null 0), _, _, _, _, _, _, _, _, _, _, _, _, _, _, _, _, _, _, _, _, _, _, _]) hP hD rfl
  refine lv_aload_n hx hb dX11_init_206 rfl (lv_at hl 0 rfl) ?_
  refine lv_bipush (v := 42) hx hb dX11_init_207 rfl ?_
  refine zz_newa (atype := .int) (a0 := (42, .inl (fun _ => 0))) hx hb (hts _ mw_195) (ty := .int) rfl hK hP hD hS hA (n := nI 42) (N' := 42) (cA := cI) 0 rfl (fun _ => rfl) (nI_pos (by omega)) (nI_clamp (by omega)) (show 42 * 4 ≤ 536870912 by omega) (Nat.le_of_ble_eq_true rfl) (Nat.le_of_ble_eq_true rfl) dX11_init_209 (fun m30 H hP hD hS => ?_)
  obtain ⟨hP, hD⟩ := zre (W2 := [_, _, _, _, _, _, _, _, _, _, _, _, _, _, _, _, _, _, _, _, _, _, _, _, (oa m30 cI 42 (fun _ => 0))]) hP hD rfl
  refine va_putF (D := (dC, dI)) (ci := 9) (v := .ref m30) (ty := .array .int) (C := RX11) (T := TX11) (N := 55) hx hb hts inX11 tyX11 tyX11_ok nmX11 hown hK hP hD hS 0 rfl rfl 30 (by decide) (hts _ mw_1189) (fun _ h9 => h9) rfl hin rfl (by decide +kernel) rfl rfl (Nat.le_of_ble_eq_true rfl) dX11_init_211 (fun H locs hP hD hS => ?_)
  obtain ⟨hP, hD⟩ := zre (W2 := [(oc9 k0 0 (.ref m1) (.ref m2) (.ref m3) (.ref m4) (.ref m5) (.ref m6) (.ref m7) (.ref m8) (.ref m9) (.ref m10) (.ref m11) (.ref m12) (.ref m13) 0 0 (.ref m16) (.ref m17) (.ref m18) 0 0 0 (.ref m22) (.ref m23) (.ref m24) (.ref m25) 0 (.ref m27) (.ref m28) (.ref m29) (.ref m30) 0 .null .null .null 0 0 .null .null .null .null 0 0 .null 0 0 0 0 0 0 .null .null .null .null 0), _, _, _, _, _, _, _, _, _, _, _, _, _, _, _, _, _, _, _, _, _, _, _, _]) hP hD rfl
  refine lv_aload_n hx hb dX11_init_214 rfl (lv_at hl 0 rfl) ?_
  refine lv_bipush (v := 8) hx hb dX11_init_215 rfl ?_
  refine zz_newa (atype := .int) (a0 := (8, .inl (fun _ => 0))) hx hb (hts _ mw_195) (ty := .int) rfl hK hP hD hS hA (n := nI 8) (N' := 8) (cA := cI) 0 rfl (fun _ => rfl) (nI_pos (by omega)) (nI_clamp (by omega)) (show 8 * 4 ≤ 536870912 by omega) (Nat.le_of_ble_eq_true rfl) (Nat.le_of_ble_eq_true rfl) dX11_init_217 (fun m32 H hP hD hS => ?_)
  obtain ⟨hP, hD⟩ := zre (W2 := [_, _, _, _, _, _, _, _, _, _, _, _, _, _, _, _, _, _, _, _, _, _, _, _, _, (oa m32 cI 8 (fun _ => 0))]) hP hD rfl
  refine va_putF (D := (dC, dI)) (ci := 9) (v := .ref m32) (ty := .array .int) (C := RX11) (T := TX11) (N := 55) hx hb hts inX11 tyX11 tyX11_ok nmX11 hown hK hP hD hS 0 rfl rfl 32 (by decide) (hts _ mw_1191) (fun _ h9 => h9) rfl hin rfl (by decide +kernel) rfl rfl (Nat.le_of_ble_eq_true rfl) dX11_init_219 (fun H locs hP hD hS => ?_)
  obtain ⟨hP, hD⟩ := zre (W2 := [(oc9 k0 0 (.ref m1) (.ref m2) (.ref m3) (.ref m4) (.ref m5) (.ref m6) (.ref m7) (.ref m8) (.ref m9) (.ref m10) (.ref m11) (.ref m12) (.ref m13) 0 0 (.ref m16) (.ref m17) (.ref m18) 0 0 0 (.ref m22) (.ref m23) (.ref m24) (.ref m25) 0 (.ref m27) (.ref m28) (.ref m29) (.ref m30) 0 (.ref m32) .null .null 0 0 .null .null .null .null 0 0 .null 0 0 0 0 0 0 .null .null .null .null 0), _, _, _, _, _, _, _, _, _, _, _, _, _, _, _, _, _, _, _, _, _, _, _, _, _]) hP hD rfl
  refine lv_aload_n hx hb dX11_init_222 rfl (lv_at hl 0 rfl) ?_
  refine lv_bipush (v := 42) hx hb dX11_init_223 rfl ?_
  refine zz_newa (atype := .int) (a0 := (42, .inl (fun _ => 0))) hx hb (hts _ mw_195) (ty := .int) rfl hK hP hD hS hA (n := nI 42) (N' := 42) (cA := cI) 0 rfl (fun _ => rfl) (nI_pos (by omega)) (nI_clamp (by omega)) (show 42 * 4 ≤ 536870912 by omega) (Nat.le_of_ble_eq_true rfl) (Nat.le_of_ble_eq_true rfl) dX11_init_225 (fun m33 H hP hD hS => ?_)
  obtain ⟨hP, hD⟩ := zre (W2 := [_, _, _, _, _, _, _, _, _, _, _, _, _, _, _, _, _, _, _, _, _, _, _, _, _, _, (oa m33 cI 42 (fun _ => 0))]) hP hD rfl
  refine va_putF (D := (dC, dI)) (ci := 9) (v := .ref m33) (ty := .array .int) (C := RX11) (T := TX11) (N := 55) hx hb hts inX11 tyX11 tyX11_ok nmX11 hown hK hP hD hS 0 rfl rfl 33 (by decide) (hts _ mw_1192) (fun _ h9 => h9) rfl hin rfl (by decide +kernel) rfl rfl (Nat.le_of_ble_eq_true rfl) dX11_init_227 (fun H locs hP hD hS => ?_)
  obtain ⟨hP, hD⟩ := zre (W2 := [(oc9 k0 0 (.ref m1) (.ref m2) (.ref m3) (.ref m4) (.ref m5) (.ref m6) (.ref m7) (.ref m8) (.ref m9) (.ref m10) (.ref m11) (.ref m12) (.ref m13) 0 0 (.ref m16) (.ref m17) (.ref m18) 0 0 0 (.ref m22) (.ref m23) (.ref m24) (.ref m25) 0 (.ref m27) (.ref m28) (.ref m29) (.ref m30) 0 (.ref m32) (.ref m33) .null 0 0 .null .null .null .null 0 0 .null 0 0 0 0 0 0 .null .null .null .null 0), _, _, _, _, _, _, _, _, _, _, _, _, _, _, _, _, _, _, _, _, _, _, _, _, _, _]) hP hD rfl
  refine lv_aload_n hx hb dX11_init_230 rfl (lv_at hl 0 rfl) ?_
  refine lv_bipush (v := 42) hx hb dX11_init_231 rfl ?_
  refine zz_newa (atype := .int) (a0 := (42, .inl (fun _ => 0))) hx hb (hts _ mw_195) (ty := .int) rfl hK hP hD hS hA (n := nI 42) (N' := 42) (cA := cI) 0 rfl (fun _ => rfl) (nI_pos (by omega)) (nI_clamp (by omega)) (show 42 * 4 ≤ 536870912 by omega) (Nat.le_of_ble_eq_true rfl) (Nat.le_of_ble_eq_true rfl) dX11_init_233 (fun m34 H hP hD hS => ?_)
  obtain ⟨hP, hD⟩ := zre (W2 := [_, _, _, _, _, _, _, _, _, _, _, _, _, _, _, _, _, _, _, _, _, _, _, _, _, _, _, (oa m34 cI 42 (fun _ => 0))]) hP hD rfl
  refine va_putF (D := (dC, dI)) (ci := 9) (v := .ref m34) (ty := .array .int) (C := RX11) (T := TX11) (N := 55) hx hb hts inX11 tyX11 tyX11_ok nmX11 hown hK hP hD hS 0 rfl rfl 34 (by decide) (hts _ mw_1193) (fun _ h9 => h9) rfl hin rfl (by decide +kernel) rfl rfl (Nat.le_of_ble_eq_true rfl) dX11_init_235 (fun H locs hP hD hS => ?_)
  obtain ⟨hP, hD⟩ := zre (W2 := [(oc9 k0 0 (.ref m1) (.ref m2) (.ref m3) (.ref m4) (.ref m5) (.ref m6) (.ref m7) (.ref m8) (.ref m9) (.ref m10) (.ref m11) (.ref m12) (.ref m13) 0 0 (.ref m16) (.ref m17) (.ref m18) 0 0 0 (.ref m22) (.ref m23) (.ref m24) (.ref m25) 0 (.ref m27) (.ref m28) (.ref m29) (.ref m30) 0 (.ref m32) (.ref m33) (.ref m34) 0 0 .null .null .null .null 0 0 .null 0 0 0 0 0 0 .null .null .null .null 0), _, _, _, _, _, _, _, _, _, _, _, _, _, _, _, _, _, _, _, _, _, _, _, _, _, _, _]) hP hD rfl
  refine lv_aload_n hx hb dX11_init_238 rfl (lv_at hl 0 rfl) ?_
  refine lv_sipush (v := 201) hx hb dX11_init_239 rfl ?_
  refine zz_newa (atype := .boolean) (a0 := (201, .inl (fun _ => 0))) hx hb (hts _ mw_308) (ty := .boolean) rfl hK hP hD hS hA (n := nI 201) (N' := 201) (cA := cZ) 1 rfl (fun _ => rfl) (nI_pos (by omega)) (nI_clamp (by omega)) (show 201 * 1 ≤ 536870912 by omega) (Nat.le_of_ble_eq_true rfl) (Nat.le_of_ble_eq_true rfl) dX11_init_242 (fun m37 H hP hD hS => ?_)
  obtain ⟨hP, hD⟩ := zre (W2 := [_, _, _, _, _, _, _, _, _, _, _, _, _, _, _, _, _, _, _, _, _, _, _, _, _, _, _, _, (oa m37 cZ 201 (fun _ => 0))]) hP hD rfl
  refine va_putF (D := (dC, dI)) (ci := 9) (v := .ref m37) (ty := .array .boolean) (C := RX11) (T := TX11) (N := 55) hx hb hts inX11 tyX11 tyX11_ok nmX11 hown hK hP hD hS 0 rfl rfl 37 (by decide) (hts _ mw_1196) (fun _ h9 => h9) rfl hin rfl (by decide +kernel) rfl rfl (Nat.le_of_ble_eq_true rfl) dX11_init_244 (fun H locs hP hD hS => ?_)
  obtain ⟨hP, hD⟩ := zre (W2 := [(oc9 k0 0 (.ref m1) (.ref m2) (.ref m3) (.ref m4) (.ref m5) (.ref m6) (.ref m7) (.ref m8) (.ref m9) (.ref m10) (.ref m11) (.ref m12) (.ref m13) 0 0 (.ref m16) (.ref m17) (.ref m18) 0 0 0 (.ref m22) (.ref m23) (.ref m24) (.ref m25) 0 (.ref m27) (.ref m28) (.ref m29) (.ref m30) 0 (.ref m32) (.ref m33) (.ref m34) 0 0 (.ref m37) .null .null .null 0 0 .null 0 0 0 0 0 0 .null .null .null .null 0), _, _, _, _, _, _, _, _, _, _, _, _, _, _, _, _, _, _, _, _, _, _, _, _, _, _, _, _]) hP hD rfl
  refine lv_aload_n hx hb dX11_init_247 rfl (lv_at hl 0 rfl) ?_
  refine lv_sipush (v := 201) hx hb dX11_init_248 rfl ?_
  refine zz_newa (atype := .boolean) (a0 := (201, .inl (fun _ => 0))) hx hb (hts _ mw_308) (ty := .boolean) rfl hK hP hD hS hA (n := nI 201) (N' := 201) (cA := cZ) 1 rfl (fun _ => rfl) (nI_pos (by omega)) (nI_clamp (by omega)) (show 201 * 1 ≤ 536870912 by omega) (Nat.le_of_ble_eq_true rfl) (Nat.le_of_ble_eq_true rfl) dX11_init_251 (fun m38 H hP hD hS => ?_)
  obtain ⟨hP, hD⟩ := zre (W2 := [_, _, _, _, _, _, _, _, _, _, _, _, _, _, _, _, _, _, _, _, _, _, _, _, _, _, _, _, _, (oa m38 cZ 201 (fun _ => 0))]) hP hD rfl
  refine va_putF (D := (dC, dI)) (ci := 9) (v := .ref m38) (ty := .array .boolean) (C := RX11) (T := TX11) (N := 55) hx hb hts inX11 tyX11 tyX11_ok nmX11 hown hK hP hD hS 0 rfl rfl 38 (by decide) (hts _ mw_1197) (fun _ h9 => h9) rfl hin rfl (by decide +kernel) rfl rfl (Nat.le_of_ble_eq_true rfl) dX11_init_253 (fun H locs hP hD hS => ?_)
  obtain ⟨hP, hD⟩ := zre (W2 := [(oc9 k0 0 (.ref m1) (.ref m2) (.ref m3) (.ref m4) (.ref m5) (.ref m6) (.ref m7) (.ref m8) (.ref m9) (.ref m10) (.ref m11) (.ref m12) (.ref m13) 0 0 (.ref m16) (.ref m17) (.ref m18) 0 0 0 (.ref m22) (.ref m23) (.ref m24) (.ref m25) 0 (.ref m27) (.ref m28) (.ref m29) (.ref m30) 0 (.ref m32) (.ref m33) (.ref m34) 0 0 (.ref m37) (.ref m38) .null .null 0 0 .null 0 0 0 0 0 0 .null .null .null .null 0), _, _, _, _, _, _, _, _, _, _, _, _, _, _, _, _, _, _, _, _, _, _, _, _, _, _, _, _, _]) hP hD rfl
  refine lv_aload_n hx hb dX11_init_256 rfl (lv_at hl 0 rfl) ?_
  refine lv_sipush (v := 8040) hx hb dX11_init_257 rfl ?_
  refine zz_newa (atype := .boolean) (a0 := (8040, .inl (fun _ => 0))) hx hb (hts _ mw_308) (ty := .boolean) rfl hK hP hD hS hA (n := nI 8040) (N' := 8040) (cA := cZ) 1 rfl (fun _ => rfl) (nI_pos (by omega)) (nI_clamp (by omega)) (show 8040 * 1 ≤ 536870912 by omega) (Nat.le_of_ble_eq_true rfl) (Nat.le_of_ble_eq_true rfl) dX11_init_260 (fun m39 H hP hD hS => ?_)
  obtain ⟨hP, hD⟩ := zre (W2 := [_, _, _, _, _, _, _, _, _, _, _, _, _, _, _, _, _, _, _, _, _, _, _, _, _, _, _, _, _, _, (oa m39 cZ 8040 (fun _ => 0))]) hP hD rfl
  refine va_putF (D := (dC, dI)) (ci := 9) (v := .ref m39) (ty := .array .boolean) (C := RX11) (T := TX11) (N := 55) hx hb hts inX11 tyX11 tyX11_ok nmX11 hown hK hP hD hS 0 rfl rfl 39 (by decide) (hts _ mw_1198) (fun _ h9 => h9) rfl hin rfl (by decide +kernel) rfl rfl (Nat.le_of_ble_eq_true rfl) dX11_init_262 (fun H locs hP hD hS => ?_)
  obtain ⟨hP, hD⟩ := zre (W2 := [(oc9 k0 0 (.ref m1) (.ref m2) (.ref m3) (.ref m4) (.ref m5) (.ref m6) (.ref m7) (.ref m8) (.ref m9) (.ref m10) (.ref m11) (.ref m12) (.ref m13) 0 0 (.ref m16) (.ref m17) (.ref m18) 0 0 0 (.ref m22) (.ref m23) (.ref m24) (.ref m25) 0 (.ref m27) (.ref m28) (.ref m29) (.ref m30) 0 (.ref m32) (.ref m33) (.ref m34) 0 0 (.ref m37) (.ref m38) (.ref m39) .null 0 0 .null 0 0 0 0 0 0 .null .null .null .null 0), _, _, _, _, _, _, _, _, _, _, _, _, _, _, _, _, _, _, _, _, _, _, _, _, _, _, _, _, _, _]) hP hD rfl
  refine lv_aload_n hx hb dX11_init_265 rfl (lv_at hl 0 rfl) ?_
  refine lv_bipush (v := 6) hx hb dX11_init_266 rfl ?_
  refine zz_newa (atype := .int) (a0 := (6, .inl (fun _ => 0))) hx hb (hts _ mw_195) (ty := .int) rfl hK hP hD hS hA (n := nI 6) (N' := 6) (cA := cI) 0 rfl (fun _ => rfl) (nI_pos (by omega)) (nI_clamp (by omega)) (show 6 * 4 ≤ 536870912 by omega) (Nat.le_of_ble_eq_true rfl) (Nat.le_of_ble_eq_true rfl) dX11_init_268 (fun m40 H hP hD hS => ?_)
  obtain ⟨hP, hD⟩ := zre (W2 := [_, _, _, _, _, _, _, _, _, _, _, _, _, _, _, _, _, _, _, _, _, _, _, _, _, _, _, _, _, _, _, (oa m40 cI 6 (fun _ => 0))]) hP hD rfl
  refine va_putF (D := (dC, dI)) (ci := 9) (v := .ref m40) (ty := .array .int) (C := RX11) (T := TX11) (N := 55) hx hb hts inX11 tyX11 tyX11_ok nmX11 hown hK hP hD hS 0 rfl rfl 40 (by decide) (hts _ mw_1199) (fun _ h9 => h9) rfl hin rfl (by decide +kernel) rfl rfl (Nat.le_of_ble_eq_true rfl) dX11_init_270 (fun H locs hP hD hS => ?_)
  obtain ⟨hP, hD⟩ := zre (W2 := [(oc9 k0 0 (.ref m1) (.ref m2) (.ref m3) (.ref m4) (.ref m5) (.ref m6) (.ref m7) (.ref m8) (.ref m9) (.ref m10) (.ref m11) (.ref m12) (.ref m13) 0 0 (.ref m16) (.ref m17) (.ref m18) 0 0 0 (.ref m22) (.ref m23) (.ref m24) (.ref m25) 0 (.ref m27) (.ref m28) (.ref m29) (.ref m30) 0 (.ref m32) (.ref m33) (.ref m34) 0 0 (.ref m37) (.ref m38) (.ref m39) (.ref m40) 0 0 .null 0 0 0 0 0 0 .null .null .null .null 0), _, _, _, _, _, _, _, _, _, _, _, _, _, _, _, _, _, _, _, _, _, _, _, _, _, _, _, _, _, _, _]) hP hD rfl
  refine lv_aload_n hx hb dX11_init_273 rfl (lv_at hl 0 rfl) ?_
  refine lv_bipush (v := 40) hx hb dX11_init_274 rfl ?_
  refine zz_newa (atype := .boolean) (a0 := (40, .inl (fun _ => 0))) hx hb (hts _ mw_308) (ty := .boolean) rfl hK hP hD hS hA (n := nI 40) (N' := 40) (cA := cZ) 1 rfl (fun _ => rfl) (nI_pos (by omega)) (nI_clamp (by omega)) (show 40 * 1 ≤ 536870912 by omega) (Nat.le_of_ble_eq_true rfl) (Nat.le_of_ble_eq_true rfl) dX11_init_276 (fun m43 H hP hD hS => ?_)
  obtain ⟨hP, hD⟩ := zre (W2 := (_ :: _ :: _ :: _ :: _ :: _ :: _ :: _ :: _ :: _ :: _ :: _ :: _ :: _ :: _ :: _ :: _ :: _ :: _ :: _ :: _ :: _ :: _ :: _ :: _ :: _ :: _ :: _ :: _ :: _ :: _ :: _ :: (oa m43 cZ 40 (fun _ => 0)) :: [])) hP hD rfl
  refine va_putF (D := (dC, dI)) (ci := 9) (v := .ref m43) (ty := .array .boolean) (C := RX11) (T := TX11) (N := 55) hx hb hts inX11 tyX11 tyX11_ok nmX11 hown hK hP hD hS 0 rfl rfl 43 (by decide) (hts _ mw_1202) (fun _ h9 => h9) rfl hin rfl (by decide +kernel) rfl rfl (Nat.le_of_ble_eq_true rfl) dX11_init_278 (fun H locs hP hD hS => ?_)
  obtain ⟨hP, hD⟩ := zre (W2 := ((oc9 k0 0 (.ref m1) (.ref m2) (.ref m3) (.ref m4) (.ref m5) (.ref m6) (.ref m7) (.ref m8) (.ref m9) (.ref m10) (.ref m11) (.ref m12) (.ref m13) 0 0 (.ref m16) (.ref m17) (.ref m18) 0 0 0 (.ref m22) (.ref m23) (.ref m24) (.ref m25) 0 (.ref m27) (.ref m28) (.ref m29) (.ref m30) 0 (.ref m32) (.ref m33) (.ref m34) 0 0 (.ref m37) (.ref m38) (.ref m39) (.ref m40) 0 0 (.ref m43) 0 0 0 0 0 0 .null .null .null .null 0) :: _ :: _ :: _ :: _ :: _ :: _ :: _ :: _ :: _ :: _ :: _ :: _ :: _ :: _ :: _ :: _ :: _ :: _ :: _ :: _ :: _ :: _ :: _ :: _ :: _ :: _ :: _ :: _ :: _ :: _ :: _ :: _ :: [])) hP hD rfl
  refine lv_aload_n hx hb dX11_init_281 rfl (lv_at hl 0 rfl) ?_
  refine lv_sipush (v := 201) hx hb dX11_init_282 rfl ?_
  refine zz_newa (atype := .boolean) (a0 := (201, .inl (fun _ => 0))) hx hb (hts _ mw_308) (ty := .boolean) rfl hK hP hD hS hA (n := nI 201) (N' := 201) (cA := cZ) 1 rfl (fun _ => rfl) (nI_pos (by omega)) (nI_clamp (by omega)) (show 201 * 1 ≤ 536870912 by omega) (Nat.le_of_ble_eq_true rfl) (Nat.le_of_ble_eq_true rfl) dX11_init_285 (fun m50 H hP hD hS => ?_)
  obtain ⟨hP, hD⟩ := zre (W2 := (_ :: _ :: _ :: _ :: _ :: _ :: _ :: _ :: _ :: _ :: _ :: _ :: _ :: _ :: _ :: _ :: _ :: _ :: _ :: _ :: _ :: _ :: _ :: _ :: _ :: _ :: _ :: _ :: _ :: _ :: _ :: _ :: _ :: (oa m50 cZ 201 (fun _ => 0)) :: [])) hP hD rfl
  refine va_putF (D := (dC, dI)) (ci := 9) (v := .ref m50) (ty := .array .boolean) (C := RX11) (T := TX11) (N := 55) hx hb hts inX11 tyX11 tyX11_ok nmX11 hown hK hP hD hS 0 rfl rfl 50 (by decide) (hts _ mw_1209) (fun _ h9 => h9) rfl hin rfl (by decide +kernel) rfl rfl (Nat.le_of_ble_eq_true rfl) dX11_init_287 (fun H locs hP hD hS => ?_)
  obtain ⟨hP, hD⟩ := zre (W2 := ((oc9 k0 0 (.ref m1) (.ref m2) (.ref m3) (.ref m4) (.ref m5) (.ref m6) (.ref m7) (.ref m8) (.ref m9) (.ref m10) (.ref m11) (.ref m12) (.ref m13) 0 0 (.ref m16) (.ref m17) (.ref m18) 0 0 0 (.ref m22) (.ref m23) (.ref m24) (.ref m25) 0 (.ref m27) (.ref m28) (.ref m29) (.ref m30) 0 (.ref m32) (.ref m33) (.ref m34) 0 0 (.ref m37) (.ref m38) (.ref m39) (.ref m40) 0 0 (.ref m43) 0 0 0 0 0 0 (.ref m50) .null .null .null 0) :: _ :: _ :: _ :: _ :: _ :: _ :: _ :: _ :: _ :: _ :: _ :: _ :: _ :: _ :: _ :: _ :: _ :: _ :: _ :: _ :: _ :: _ :: _ :: _ :: _ :: _ :: _ :: _ :: _ :: _ :: _ :: _ :: _ :: [])) hP hD rfl
  refine lv_aload_n hx hb dX11_init_290 rfl (lv_at hl 0 rfl) ?_
  refine lv_sipush (v := 402) hx hb dX11_init_291 rfl ?_
  refine zz_newa (atype := .int) (a0 := (402, .inl (fun _ => 0))) hx hb (hts _ mw_195) (ty := .int) rfl hK hP hD hS hA (n := nI 402) (N' := 402) (cA := cI) 0 rfl (fun _ => rfl) (nI_pos (by omega)) (nI_clamp (by omega)) (show 402 * 4 ≤ 536870912 by omega) (Nat.le_of_ble_eq_true rfl) (Nat.le_of_ble_eq_true rfl) dX11_init_294 (fun m51 H hP hD hS => ?_)
  obtain ⟨hP, hD⟩ := zre (W2 := (_ :: _ :: _ :: _ :: _ :: _ :: _ :: _ :: _ :: _ :: _ :: _ :: _ :: _ :: _ :: _ :: _ :: _ :: _ :: _ :: _ :: _ :: _ :: _ :: _ :: _ :: _ :: _ :: _ :: _ :: _ :: _ :: _ :: _ :: (oa m51 cI 402 (fun _ => 0)) :: [])) hP hD rfl
  refine va_putF (D := (dC, dI)) (ci := 9) (v := .ref m51) (ty := .array .int) (C := RX11) (T := TX11) (N := 55) hx hb hts inX11 tyX11 tyX11_ok nmX11 hown hK hP hD hS 0 rfl rfl 51 (by decide) (hts _ mw_1210) (fun _ h9 => h9) rfl hin rfl (by decide +kernel) rfl rfl (Nat.le_of_ble_eq_true rfl) dX11_init_296 (fun H locs hP hD hS => ?_)
  obtain ⟨hP, hD⟩ := zre (W2 := ((oc9 k0 0 (.ref m1) (.ref m2) (.ref m3) (.ref m4) (.ref m5) (.ref m6) (.ref m7) (.ref m8) (.ref m9) (.ref m10) (.ref m11) (.ref m12) (.ref m13) 0 0 (.ref m16) (.ref m17) (.ref m18) 0 0 0 (.ref m22) (.ref m23) (.ref m24) (.ref m25) 0 (.ref m27) (.ref m28) (.ref m29) (.ref m30) 0 (.ref m32) (.ref m33) (.ref m34) 0 0 (.ref m37) (.ref m38) (.ref m39) (.ref m40) 0 0 (.ref m43) 0 0 0 0 0 0 (.ref m50) (.ref m51) .null .null 0) :: _ :: _ :: _ :: _ :: _ :: _ :: _ :: _ :: _ :: _ :: _ :: _ :: _ :: _ :: _ :: _ :: _ :: _ :: _ :: _ :: _ :: _ :: _ :: _ :: _ :: _ :: _ :: _ :: _ :: _ :: _ :: _ :: _ :: _ :: [])) hP hD rfl
  refine lv_aload_n hx hb dX11_init_299 rfl (lv_at hl 0 rfl) ?_
  refine lv_sipush (v := 402) hx hb dX11_init_300 rfl ?_
  refine zz_newa (atype := .int) (a0 := (402, .inl (fun _ => 0))) hx hb (hts _ mw_195) (ty := .int) rfl hK hP hD hS hA (n := nI 402) (N' := 402) (cA := cI) 0 rfl (fun _ => rfl) (nI_pos (by omega)) (nI_clamp (by omega)) (show 402 * 4 ≤ 536870912 by omega) (Nat.le_of_ble_eq_true rfl) (Nat.le_of_ble_eq_true rfl) dX11_init_303 (fun m52 H hP hD hS => ?_)
  obtain ⟨hP, hD⟩ := zre (W2 := (_ :: _ :: _ :: _ :: _ :: _ :: _ :: _ :: _ :: _ :: _ :: _ :: _ :: _ :: _ :: _ :: _ :: _ :: _ :: _ :: _ :: _ :: _ :: _ :: _ :: _ :: _ :: _ :: _ :: _ :: _ :: _ :: _ :: _ :: _ :: (oa m52 cI 402 (fun _ => 0)) :: [])) hP hD rfl
  refine va_putF (D := (dC, dI)) (ci := 9) (v := .ref m52) (ty := .array .int) (C := RX11) (T := TX11) (N := 55) hx hb hts inX11 tyX11 tyX11_ok nmX11 hown hK hP hD hS 0 rfl rfl 52 (by decide) (hts _ mw_1211) (fun _ h9 => h9) rfl hin rfl (by decide +kernel) rfl rfl (Nat.le_of_ble_eq_true rfl) dX11_init_305 (fun H locs hP hD hS => ?_)
  obtain ⟨hP, hD⟩ := zre (W2 := ((oc9 k0 0 (.ref m1) (.ref m2) (.ref m3) (.ref m4) (.ref m5) (.ref m6) (.ref m7) (.ref m8) (.ref m9) (.ref m10) (.ref m11) (.ref m12) (.ref m13) 0 0 (.ref m16) (.ref m17) (.ref m18) 0 0 0 (.ref m22) (.ref m23) (.ref m24) (.ref m25) 0 (.ref m27) (.ref m28) (.ref m29) (.ref m30) 0 (.ref m32) (.ref m33) (.ref m34) 0 0 (.ref m37) (.ref m38) (.ref m39) (.ref m40) 0 0 (.ref m43) 0 0 0 0 0 0 (.ref m50) (.ref m51) (.ref m52) .null 0) :: _ :: _ :: _ :: _ :: _ :: _ :: _ :: _ :: _ :: _ :: _ :: _ :: _ :: _ :: _ :: _ :: _ :: _ :: _ :: _ :: _ :: _ :: _ :: _ :: _ :: _ :: _ :: _ :: _ :: _ :: _ :: _ :: _ :: _ :: _ :: [])) hP hD rfl
  refine lv_aload_n hx hb dX11_init_308 rfl (lv_at hl 0 rfl) ?_
  refine lv_sipush (v := 402) hx hb dX11_init_309 rfl ?_
  refine zz_newa (atype := .int) (a0 := (402, .inl (fun _ => 0))) hx hb (hts _ mw_195) (ty := .int) rfl hK hP hD hS hA (n := nI 402) (N' := 402) (cA := cI) 0 rfl (fun _ => rfl) (nI_pos (by omega)) (nI_clamp (by omega)) (show 402 * 4 ≤ 536870912 by omega) (Nat.le_of_ble_eq_true rfl) (Nat.le_of_ble_eq_true rfl) dX11_init_312 (fun m53 H hP hD hS => ?_)
  obtain ⟨hP, hD⟩ := zre (W2 := (_ :: _ :: _ :: _ :: _ :: _ :: _ :: _ :: _ :: _ :: _ :: _ :: _ :: _ :: _ :: _ :: _ :: _ :: _ :: _ :: _ :: _ :: _ :: _ :: _ :: _ :: _ :: _ :: _ :: _ :: _ :: _ :: _ :: _ :: _ :: _ :: (oa m53 cI 402 (fun _ => 0)) :: [])) hP hD rfl
  refine va_putF (D := (dC, dI)) (ci := 9) (v := .ref m53) (ty := .array .int) (C := RX11) (T := TX11) (N := 55) hx hb hts inX11 tyX11 tyX11_ok nmX11 hown hK hP hD hS 0 rfl rfl 53 (by decide) (hts _ mw_1212) (fun _ h9 => h9) rfl hin rfl (by decide +kernel) rfl rfl (Nat.le_of_ble_eq_true rfl) dX11_init_314 (fun H locs hP hD hS => ?_)
  obtain ⟨hP, hD⟩ := zre (W2 := ((oc9 k0 0 (.ref m1) (.ref m2) (.ref m3) (.ref m4) (.ref m5) (.ref m6) (.ref m7) (.ref m8) (.ref m9) (.ref m10) (.ref m11) (.ref m12) (.ref m13) 0 0 (.ref m16) (.ref m17) (.ref m18) 0 0 0 (.ref m22) (.ref m23) (.ref m24) (.ref m25) 0 (.ref m27) (.ref m28) (.ref m29) (.ref m30) 0 (.ref m32) (.ref m33) (.ref m34) 0 0 (.ref m37) (.ref m38) (.ref m39) (.ref m40) 0 0 (.ref m43) 0 0 0 0 0 0 (.ref m50) (.ref m51) (.ref m52) (.ref m53) 0) :: _ :: _ :: _ :: _ :: _ :: _ :: _ :: _ :: _ :: _ :: _ :: _ :: _ :: _ :: _ :: _ :: _ :: _ :: _ :: _ :: _ :: _ :: _ :: _ :: _ :: _ :: _ :: _ :: _ :: _ :: _ :: _ :: _ :: _ :: _ :: _ :: [])) hP hD rfl
  obtain ⟨hP9, hD9⟩ := zu_sub (wc := (_ :: _ :: _ :: _ :: _ :: _ :: _ :: _ :: _ :: _ :: _ :: _ :: _ :: _ :: _ :: _ :: _ :: _ :: _ :: _ :: _ :: _ :: _ :: _ :: _ :: _ :: _ :: _ :: _ :: _ :: _ :: _ :: _ :: _ :: _ :: _ :: _ :: [])) hP hD (true :: true :: true :: true :: true :: true :: true :: true :: true :: true :: true :: true :: true :: true :: true :: true :: true :: true :: true :: true :: true :: true :: true :: true :: true :: true :: true :: true :: true :: true :: true :: true :: true :: true :: true :: true :: true :: []) rfl rfl
  refine W.widen (k := 36) (n := 34772) (by decide) (by decide) ?_
  rw [hQ9]
  exact W.vret hx hb hr (fun t ht hW => ⟨⟨rfl, m1, m2, m3, m4, m5, m6, m7, m8, m9, m10, m11, m12, m13, m16, m17, m18, m22, m23, m24, m25, m27, m28, m29, m30, m32, m33, m34, m37, m38, m39, m40, m43, m50, m51, m52, m53, by rw [ht]; exact hP9, hD9⟩, hS.F ht⟩) hS.2.2 dX11_init_317
end
section
/-! what holds of a state: of one feature, of all -/
def wfQ (kd st tn mn it : Int32) (X Y : Nat → Int32) : Prop :=
  (0 ≤ kd.toInt ∧ kd.toInt ≤ 6) ∧ (0 ≤ st.toInt ∧ st.toInt ≤ 2) ∧ (tn.toInt = 0 → (mn = nI (nN mn) ∧ nN mn ≤ 40 ∧ (kd.toInt = 0 → nN mn ≤ 1) ∧ pls (nN mn) X Y) ∧ (¬ st.toInt = 0 → mSm kd.toInt (nN mn) X Y)) ∧ (¬ st.toInt = 2 → it = -1)
def wfS (ft : Nat) (kd st tn mn it cx cy : Nat → Int32) : Prop := ∀ q, q < ft → wfQ (kd q) (st q) (tn q) (mn q) (it q) (cF40 cx q) (cF40 cy q)
theorem wfQ_cg {kd st tn mn it : Int32} {X Y X1 Y1 : Nat → Int32} (hc : ∀ k, k < 40 → X1 k = X k ∧ Y1 k = Y k) (h : wfQ kd st tn mn it X Y) : wfQ kd st tn mn it X1 Y1 := by
  obtain ⟨h1, h2, h3, h4⟩ := h
  refine ⟨h1, h2, fun t => ?_, h4⟩
  obtain ⟨⟨a1, a2, a3, a4⟩, a5⟩ := h3 t
  have hc2 : ∀ k, k < nN mn → X k = X1 k ∧ Y k = Y1 k := fun k hk => ⟨(hc k (by omega)).1.symm, (hc k (by omega)).2.symm⟩
  exact ⟨⟨a1, a2, a3, (pls_cg hc2).mp a4⟩, fun s => mSm_cg hc2 (a5 s)⟩
section
variable {ft f : Nat} {kd st tn mn it cx cy kd1 st1 tn1 mn1 it1 cx1 cy1 : Nat → Int32}
theorem wfS_wf (h : wfS ft kd st tn mn it cx cy) : ∀ q, lvF ft st tn q → wfM mn cx cy q := fun q hq => by
  obtain ⟨_, _, h3, _⟩ := h q hq.1
  obtain ⟨⟨a1, a2, _, a4⟩, a5⟩ := h3 hq.2.2
  have s := a5 (by have := hq.2.1; omega)
  exact ⟨a1, ⟨mSm_pos s, a2⟩, a4⟩
theorem wfS_sm (h : wfS ft kd st tn mn it cx cy) {q : Nat} (hq : lvF ft st tn q) : mSm (kd q).toInt (nN (mn q)) (cF40 cx q) (cF40 cy q) := by
  obtain ⟨_, _, h3, _⟩ := h q hq.1
  exact (h3 hq.2.2).2 (by have := hq.2.1; omega)
theorem mSm_kn {kd : Int} {n : Nat} {X Y : Nat → Int32} (h : mSm kd n X Y) : (kd = 0 ∧ n = 1) ∨ (¬ kd = 0 ∧ 2 ≤ n) := by
  by_cases e : kd = 0
  · exact Or.inl ⟨e, h.1 e⟩
  · have := (h.2 e).1
    unfold mnc at this
    exact Or.inr ⟨e, by split at this <;> omega⟩
theorem wfS_kn (h : wfS ft kd st tn mn it cx cy) : okN ft st tn kd mn := fun q hq => mSm_kn (wfS_sm h hq)
theorem wfS_ok (h : wfS ft kd st tn mn it cx cy) : okA ft st tn kd mn cx cy := fun q hq => ⟨wfS_wf h q hq, wfS_sm h hq⟩
theorem wfS_it (h : wfS ft kd st tn mn it cx cy) : ∀ q, q < ft → (st q).toInt = 1 → it q = -1 := fun q hq s1 => (h q hq).2.2.2 (by omega)
theorem wfS_io (h : wfS ft kd st tn mn it cx cy) : ∀ q, q < ft → (st q).toInt = 0 → it q = -1 := fun q hq s0 => (h q hq).2.2.2 (by omega)
theorem wfS_mn (h : wfS ft kd st tn mn it cx cy) : ∀ q, q < ft → (tn q).toInt = 0 → ¬ (st q).toInt = 0 → mn q = nI (nN (mn q)) ∧ nN (mn q) ≤ 40 := fun q hq ht _ => ⟨((h q hq).2.2.1 ht).1.1, ((h q hq).2.2.1 ht).1.2.1⟩
/-- one feature has changed -/
theorem wfS_1 (h : wfS ft kd st tn mn it cx cy) (ho : ∀ p, p < ft → p ≠ f → kd1 p = kd p ∧ st1 p = st p ∧ tn1 p = tn p ∧ mn1 p = mn p ∧ it1 p = it p ∧ ∀ k, k < 40 → cF40 cx1 p k = cF40 cx p k ∧ cF40 cy1 p k = cF40 cy p k) (hf : f < ft → wfQ (kd1 f) (st1 f) (tn1 f) (mn1 f) (it1 f) (cF40 cx1 f) (cF40 cy1 f)) : wfS ft kd1 st1 tn1 mn1 it1 cx1 cy1 := by
  intro p hp
  by_cases e : p = f
  · rw [e]; exact hf (by omega)
  · obtain ⟨o1, o2, o3, o4, o5, o6⟩ := ho p hp e
    rw [o1, o2, o3, o4, o5]
    exact wfQ_cg o6 (h p hp)
theorem wfS_cg (h : wfS ft kd st tn mn it cx cy) (ho : ∀ p, p < ft → kd1 p = kd p ∧ st1 p = st p ∧ tn1 p = tn p ∧ mn1 p = mn p ∧ it1 p = it p ∧ ∀ k, k < 40 → cF40 cx1 p k = cF40 cx p k ∧ cF40 cy1 p k = cF40 cy p k) : wfS ft kd1 st1 tn1 mn1 it1 cx1 cy1 := fun p hp => by
  obtain ⟨o1, o2, o3, o4, o5, o6⟩ := ho p hp
  rw [o1, o2, o3, o4, o5]
  exact wfQ_cg o6 (h p hp)
/-- it goes -/
theorem wfQ_go {k s t m i : Int32} {X Y : Nat → Int32} (h : wfQ k s t m i X Y) (hs : s.toInt = 1) (j : Int32) : wfQ k 2 t m j X Y := by
  obtain ⟨h1, h2, h3, h4⟩ := h
  have e2 : (2 : Int32).toInt = 2 := by decide
  refine ⟨h1, by rw [e2]; omega, fun ht => ⟨(h3 ht).1, fun _ => (h3 ht).2 (by omega)⟩, fun g => absurd e2 g⟩
theorem wfS_go (h : wfS ft kd st tn mn it cx cy) (hs : f < ft → (st f).toInt = 1) (j : Int32) : wfS ft kd (upd st f 2) tn mn (upd it f j) cx cy :=
  wfS_1 (f := f) h (fun p _ e => ⟨rfl, if_neg e, rfl, rfl, if_neg e, fun k _ => ⟨rfl, rfl⟩⟩) (fun hf => by rw [up_at, up_at]; exact wfQ_go (h f hf) (hs hf) j)
theorem wfS_gn {M : Nat → Prop} (h : wfS ft kd st tn mn it cx cy) (hs : ∀ q, q < ft → M q → (st q).toInt = 1) (j : Int32) : wfS ft kd (gnA M ft 2 st) tn mn (gnA M ft j it) cx cy := by
  intro q hq
  by_cases m : M q
  · rw [show gnA M ft 2 st q = 2 by unfold gnA; rw [if_pos ⟨hq, m⟩], show gnA M ft j it q = j by unfold gnA; rw [if_pos ⟨hq, m⟩]]
    exact wfQ_go (h q hq) (hs q hq m) j
  · rw [show gnA M ft 2 st q = st q by unfold gnA; rw [if_neg (fun g => m g.2)], show gnA M ft j it q = it q by unfold gnA; rw [if_neg (fun g => m g.2)]]
    exact h q hq
/-- its corners move, or go -/
theorem wfS_row {n : Nat} {m : Int32} (h : wfS ft kd st tn mn it cx cy) (hl : lvF ft st tn f) (ho : ∀ p, p ≠ f → mn1 p = mn p) (hx : ∀ j, (j < 40 * f ∨ 40 * f + 40 ≤ j) → cx1 j = cx j ∧ cy1 j = cy j) (hm : mn1 f = nI n) (hn : n ≤ 40) (hp : pls n (cF40 cx1 f) (cF40 cy1 f)) (hs : mSm (kd f).toInt n (cF40 cx1 f) (cF40 cy1 f)) : wfS ft kd st tn mn1 it cx1 cy1 := by
  refine wfS_1 (f := f) h (fun p _ e => ⟨rfl, rfl, rfl, ho p e, rfl, fun k hk => hx (40 * p + k) (by omega)⟩) (fun hf => ?_)
  obtain ⟨h1, h2, h3, h4⟩ := h f hf
  refine ⟨h1, h2, fun ht => ?_, h4⟩
  rw [hm, nN_nI (by omega)]
  exact ⟨⟨rfl, hn, fun g => by have := hs.1 g; omega, hp⟩, fun _ => hs⟩
/-- a new feature -/
theorem wfS_new {k1 : Int32} (h : wfS ft kd st tn mn it cx cy) (hk : 0 ≤ k1.toInt ∧ k1.toInt ≤ 6) : wfS (ft + 1) (upd kd ft k1) (upd st ft 0) (upd tn ft 0) (upd mn ft 0) (upd it ft (-1)) cx cy := by
  intro q hq
  by_cases e : q = ft
  · rw [e, up_at, up_at, up_at, up_at, up_at]
    have n0 : nN (0 : Int32) = 0 := by decide
    have e0 : (0 : Int32).toInt = 0 := by decide
    refine ⟨hk, by rw [e0]; omega, fun _ => ⟨⟨by rw [n0]; rfl, by omega, fun _ => by omega, fun k hk => by omega⟩, fun g => absurd e0 g⟩, fun _ => rfl⟩
  · rw [show upd kd ft k1 q = kd q from if_neg e, show upd st ft 0 q = st q from if_neg e, show upd tn ft 0 q = tn q from if_neg e, show upd mn ft 0 q = mn q from if_neg e, show upd it ft (-1) q = it q from if_neg e]
    exact h q (by omega)
theorem wfS_cor {px py : Int32} (h : wfS ft kd st tn mn it cx cy) (hf : f < ft) (hs : (st f).toInt = 0) (ht : (tn f).toInt = 0) (hn : nN (mn f) < (if (kd f).toInt = 0 then 1 else 40)) (hx : pl px) (hy : pl py) : wfS ft kd st tn (upd mn f (nI (nN (mn f) + 1))) it (upd cx (40 * f + nN (mn f)) px) (upd cy (40 * f + nN (mn f)) py) := by
  have hn40 : nN (mn f) < 40 := by split at hn <;> omega
  refine wfS_1 (f := f) h (fun p _ e => ⟨rfl, rfl, rfl, if_neg e, rfl, fun k hk => ⟨if_neg (by omega), if_neg (by omega)⟩⟩) (fun hf => ?_)
  obtain ⟨h1, h2, h3, h4⟩ := h f hf
  obtain ⟨⟨a1, a2, a3, a4⟩, a5⟩ := h3 ht
  rw [up_at]
  refine ⟨h1, h2, fun _ => ?_, h4⟩
  rw [nN_nI (by omega)]
  refine ⟨⟨rfl, by omega, fun g => by rw [if_pos g] at hn; omega, fun k hk => ?_⟩, fun g => absurd hs g⟩
  by_cases e : k = nN (mn f)
  · show pl (upd cx (40 * f + nN (mn f)) px (40 * f + k)) ∧ pl (upd cy (40 * f + nN (mn f)) py (40 * f + k))
    rw [e, up_at, up_at]; exact ⟨hx, hy⟩
  · show pl (upd cx (40 * f + nN (mn f)) px (40 * f + k)) ∧ pl (upd cy (40 * f + nN (mn f)) py (40 * f + k))
    rw [show upd cx (40 * f + nN (mn f)) px (40 * f + k) = cx (40 * f + k) from if_neg (by omega), show upd cy (40 * f + nN (mn f)) py (40 * f + k) = cy (40 * f + k) from if_neg (by omega)]
    exact a4 k (by omega)
theorem wfS_tear (h : wfS ft kd st tn mn it cx cy) : wfS ft kd st (upd tn f 1) (upd mn f 0) it cx cy :=
  wfS_1 (f := f) h (fun p _ e => ⟨rfl, rfl, if_neg e, if_neg e, rfl, fun k _ => ⟨rfl, rfl⟩⟩) (fun hf => by
    obtain ⟨h1, h2, h3, h4⟩ := h f hf
    rw [up_at, up_at]
    exact ⟨h1, h2, fun g => absurd g (by decide), h4⟩)
theorem wfS_done (h : wfS ft kd st tn mn it cx cy) (hs : mSm (kd f).toInt (nN (mn f)) (cF40 cx f) (cF40 cy f)) (hi : it f = -1) : wfS ft kd (upd st f 1) tn mn it cx cy :=
  wfS_1 (f := f) h (fun p _ e => ⟨rfl, if_neg e, rfl, rfl, rfl, fun k _ => ⟨rfl, rfl⟩⟩) (fun hf => by
    obtain ⟨h1, h2, h3, h4⟩ := h f hf
    rw [up_at]
    exact ⟨h1, by decide, fun ht => ⟨(h3 ht).1, fun _ => hs⟩, fun _ => hi⟩)
end
end
