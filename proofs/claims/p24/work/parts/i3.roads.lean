section
set_option maxHeartbeats 4000000 in
set_option maxRecDepth 100000 in
theorem k_Roads_insert (l : Launch) (dC : Nat → ClassId) (dI : Nat → Nat → Nat) (cI cZ cF : ClassId) (sz : Nat) (ro : Nat) (za : Nat) (zw : Nat) (zx : Nat) (zy : Nat) (zg : Nat) (n : Nat) (fq : Nat) (wt9 : Nat) (RA : Nat → Option Nat) (WT : Nat → Int32) (wt : Nat → Nat) (L : List Nat) (f : Nat → va_E) (hn : n < 200) (hRA : ∀ k, k < n → ∃ a, RA k = some a ∧ feC L f a) (hfq : feC L f fq) (hWT : ∀ k, k < n → WT k = nI (wt k)) (hwb : (∀ k, k < n → wt k ≤ 1000000) ∧ wt9 ≤ 1000000) (hso : ∀ j k, j ≤ k → k < n → wt j ≤ wt k) : zM l yX6_insert cX6_insert 5 none ({ frames := 0, cells := 0, slots := 0, locals := 0 } : Room) [.ref ro, .ref fq, .int (nI wt9)] (dC, dI) (zTy cI cZ cF) ([(oc5 ro (.ref za) (.ref zw) (.ref zx) (.ref zy) (.ref zg) (nI n)), (oq za cF 200 RA), (oa zw cI 200 WT)] ++ va_pl L f) sz none (fun A t => ∃ (p5 : Nat), ∃ (RA1 : Nat → Option Nat), ∃ (WT1 : Nat → Int32), (p5 ≤ n) ∧ (∀ k, k < p5 → RA1 k = RA k ∧ WT1 k = WT k ∧ wt k ≤ wt9) ∧ (RA1 p5 = some fq ∧ WT1 p5 = nI wt9) ∧ (∀ k, p5 ≤ k → k < n → RA1 (k + 1) = RA k ∧ WT1 (k + 1) = WT k ∧ wt9 < wt k) ∧ zPD (dC, dI) classes A ([(oc5 ro (.ref za) (.ref zw) (.ref zx) (.ref zy) (.ref zg) (nI (n + 1))), (oq za cF 200 RA1), (oa zw cI 200 WT1)] ++ va_pl L f) t.heap) 0 0 := by
  refine zIn (own := "ScaleShop$Roads") (loc := [(0, .ref ro), (1, .ref fq), (2, .int (nI wt9))]) rfl rfl rfl rfl (fun p e s m below meth c hx hb hr hts hown hlocks hml hnm9 A hA hS hP hD hK hXN Q9 hQ9 ls hl => ?_)
  have hwb7 := hwb.2
  obtain ⟨v16, v26, v36, v46, v56, v66, v76, v86, hcq6⟩ := hfq
  refine lv_aload_n hx hb dX6_insert_0 rfl (lv_at hl 0 rfl) ?_
  refine va_get (D := (dC, dI)) (ci := 5) (v := .int (nI n)) (C := RX6) (T := TX6) (N := 6) hx hb hts inX6 hown hK hP 0 rfl rfl 5 (Nat.le_of_ble_eq_true rfl) (hts _ mw_251) (fun _ h9 => h9) rfl dX6_insert_1 ?_
  refine lv_aload_n hx hb dX6_insert_4 rfl (lv_at hl 0 rfl) ?_
  refine va_get (D := (dC, dI)) (ci := 5) (v := .ref za) (C := RX6) (T := TX6) (N := 6) hx hb hts inX6 hown hK hP 0 rfl rfl 0 (Nat.le_of_ble_eq_true rfl) (hts _ mw_246) (fun _ h9 => h9) rfl dX6_insert_5 ?_
  refine va_alen (v := 200) hx hb hK hP 1 2 rfl rfl (rfl) dX6_insert_8 ?_
  have b9_2 : zlt (n) := show n < 2147483648 by omega
  refine lv_icmp_lt (tgt := 13) hx hb dX6_insert_9 rfl (fun c_1 => ?_) (fun c_1 => ?_)
  · have c_1 : ((n : Nat) : Int) < 200 := zc_lt (nI_toInt b9_2) rfl c_1
    refine lv_aload_n hx hb dX6_insert_13 rfl (lv_at hl 0 rfl) ?_
    refine va_get (D := (dC, dI)) (ci := 5) (v := .int (nI n)) (C := RX6) (T := TX6) (N := 6) hx hb hts inX6 hown hK hP 0 rfl rfl 5 (Nat.le_of_ble_eq_true rfl) (hts _ mw_251) (fun _ h9 => h9) rfl dX6_insert_14 ?_
    refine lv_istore_n (lv' := [(3, .int (nI n)), (0, .ref ro), (1, .ref fq), (2, .int (nI wt9))]) hx hb dX6_insert_17 rfl hl (Nat.le_of_ble_eq_true rfl) rfl (fun ls hl => ?_)
    refine lv_aload_n hx hb dX6_insert_18 rfl (lv_at hl 1 rfl) ?_
    refine va_get (D := (dC, dI)) (ci := 5) (v := .int (nI n)) (C := RX6) (T := TX6) (N := 6) hx hb hts inX6 hown hK hP 0 rfl rfl 5 (Nat.le_of_ble_eq_true rfl) (hts _ mw_251) (fun _ h9 => h9) rfl dX6_insert_19 ?_
    refine lv_iconst (v := 1) hx hb dX6_insert_22 rfl ?_
    refine lv_isub hx hb dX6_insert_23 ?_
    refine zz_i (v := iI (((n : Nat) : Int) - 1)) (ii_pre (by omega)) ?_
    refine lv_istore (lv' := [(4, .int (iI (((n : Nat) : Int) - 1))), (3, .int (nI n)), (0, .ref ro), (1, .ref fq), (2, .int (nI wt9))]) hx hb dX6_insert_24 hl (Nat.le_of_ble_eq_true rfl) rfl (fun ls hl => ?_)
    have hl_26 : ∀ (n9 : Nat) (k5 : Nat) (RAk : Nat → Option Nat) (WTk : Nat → Int32) (H : Heap) (locs : List Loc) (ls : Array Slot), k5 < n9 → (k5 ≤ n) → (∀ k, k < k5 → RAk k = RA k ∧ WTk k = WT k) → (∀ k, k5 ≤ k → k < n → RAk (k + 1) = RA k ∧ WTk (k + 1) = WT k ∧ wt9 < wt k) → va_P (dC, dI) classes ([(oc5 ro (.ref za) (.ref zw) (.ref zx) (.ref zy) (.ref zg) (nI n)), (oq za cF 200 RAk), (oa zw cI 200 WTk)] ++ va_pl L f) H → va_D A ([(oc5 ro (.ref za) (.ref zw) (.ref zx) (.ref zy) (.ref zg) (nI n)), (oq za cF 200 RAk), (oa zw cI 200 WTk)] ++ va_pl L f) → va_S A s.heap H locs → lv_has ls 5 [(4, .int (iI (((k5 : Nat) : Int) - 1))), (3, .int (nI k5)), (0, .ref ro), (1, .ref fq), (2, .int (nI wt9))] → W p l e ({ frames := 0, cells := 0, slots := 0, locals := 0 } : Room) s m ([.ref ro, .ref fq, .int (nI wt9)] : List Value).toArray below meth c H locs 0 0 Q9 (F0 m 26 ls []) := by
      intro n9
      induction n9 with
      | zero => intro k5 RAk WTk H locs ls hm; exact absurd hm (Nat.not_lt_zero _)
      | succ n9 ih_26 =>
        intro k5 RAk WTk H locs ls hm hk5 hk1 hk2 hP hD hS hl
        refine lv_iload hx hb dX6_insert_26 (lv_at hl 0 rfl) ?_
        refine lv_if_lt (tgt := 83) hx hb dX6_insert_28 rfl (fun c_3 => ?_) (fun c_3 => ?_)
        · have c_3 : (((k5 : Nat) : Int) - 1) < 0 := zc_lt (iI_toInt (by omega)) rfl c_3
          have hc9_1 : inPl L f [(fq, .inr (1, [v16, v26, v36, v46, v56, v66, v76, v86]))] := ⟨hcq6, trivial⟩
          have hD0_1 := hD
          obtain ⟨T_1, hT_1, hP, hD⟩ := pl_oT hP hD hc9_1 (List.pairwise_singleton _ _)
          obtain ⟨hP, hD⟩ := zre (W2 := ([_, _, _, _] ++ va_pl T_1 f)) hP hD rfl
          refine lv_aload_n hx hb dX6_insert_83 rfl (lv_at hl 2 rfl) ?_
          refine va_get (D := (dC, dI)) (ci := 5) (v := .ref za) (C := RX6) (T := TX6) (N := 6) hx hb hts inX6 hown hK hP 0 rfl rfl 0 (Nat.le_of_ble_eq_true rfl) (hts _ mw_246) (fun _ h9 => h9) rfl dX6_insert_84 ?_
          refine lv_iload_n hx hb dX6_insert_87 rfl (lv_at hl 1 rfl) ?_
          refine lv_aload_n hx hb dX6_insert_88 rfl (lv_at hl 3 rfl) ?_
          have b9_4 : k5 < 200 := by omega
          refine z_aast hx hb hK hP hD hS 1 2 3 1 rfl rfl rfl rfl (e := k5) rfl b9_4 (Nat.le_of_ble_eq_true rfl) dX6_insert_89 (fun H locs hP hD hS => ?_)
          obtain ⟨hP, hD⟩ := zre (W2 := ([_, (oq za cF 200 (va_up RAk k5 (some fq))), _, _] ++ va_pl T_1 f)) hP hD rfl
          obtain ⟨hP, hD⟩ := pl_bk (X := [_, _, _]) hT_1 hP rfl hc9_1 hD0_1 rfl
          refine lv_aload_n hx hb dX6_insert_90 rfl (lv_at hl 2 rfl) ?_
          refine va_get (D := (dC, dI)) (ci := 5) (v := .ref zw) (C := RX6) (T := TX6) (N := 6) hx hb hts inX6 hown hK hP 0 rfl rfl 1 (Nat.le_of_ble_eq_true rfl) (hts _ mw_247) (fun _ h9 => h9) rfl dX6_insert_91 ?_
          refine lv_iload_n hx hb dX6_insert_94 rfl (lv_at hl 1 rfl) ?_
          refine lv_iload_n hx hb dX6_insert_95 rfl (lv_at hl 4 rfl) ?_
          refine z_iast hx hb hK hP hD hS 2 0 rfl rfl (e := k5) (x := nI wt9) rfl b9_4 (Nat.le_of_ble_eq_true rfl) dX6_insert_96 (fun H locs hP hD hS => ?_)
          obtain ⟨hP, hD⟩ := zre (W2 := ([_, _, (oa zw cI 200 (upd WTk k5 (nI wt9)))] ++ va_pl L f)) hP hD rfl
          refine lv_aload_n hx hb dX6_insert_97 rfl (lv_at hl 2 rfl) ?_
          refine lv_dup hx hb dX6_insert_98 rfl ?_
          refine va_get (D := (dC, dI)) (ci := 5) (v := .int (nI n)) (C := RX6) (T := TX6) (N := 6) hx hb hts inX6 hown hK hP 0 rfl rfl 5 (Nat.le_of_ble_eq_true rfl) (hts _ mw_251) (fun _ h9 => h9) rfl dX6_insert_99 ?_
          refine lv_iconst (v := 1) hx hb dX6_insert_102 rfl ?_
          refine lv_iadd hx hb dX6_insert_103 ?_
          refine zz_i (v := nI (n + 1)) (nI_add n 1) ?_
          refine va_put (D := (dC, dI)) (ci := 5) (v := .int (nI (n + 1))) (ty := .int) (C := RX6) (T := TX6) (N := 6) hx hb hts inX6 tyX6 tyX6_ok nmX6 hown hK hP hD hS 0 rfl rfl 5 (by decide) (hts _ mw_251) (fun _ h9 => h9) rfl (by decide +kernel) rfl rfl (Nat.le_of_ble_eq_true rfl) dX6_insert_104 (fun H locs hP hD hS => ?_)
          obtain ⟨hP, hD⟩ := zre (W2 := ([(oc5 ro (.ref za) (.ref zw) (.ref zx) (.ref zy) (.ref zg) (nI (n + 1))), _, _] ++ va_pl L f)) hP hD rfl
          have hie := ins_e (q := fq) (p := k5) (w := wt9) hk1 hk2 (fun k hk => by omega)
          obtain ⟨hP9, hD9⟩ := zu_part (cx := [_, _, _]) hP hD [true, true, true] rfl rfl
          rw [hQ9]
          exact W.vret hx hb hr (fun t ht hW => ⟨⟨rfl, k5, (va_up RAk k5 (some fq)), (upd WTk k5 (nI wt9)), (by omega), (hie.1), (hie.2.1), (hie.2.2), by rw [ht]; exact hP9, hD9⟩, hS.F ht⟩) hS.2.2 dX6_insert_107
        · have c_3 : 0 ≤ (((k5 : Nat) : Int) - 1) := zc_nlt (iI_toInt (by omega)) rfl c_3
          obtain ⟨j5, hj5⟩ : ∃ j, k5 = j + 1 := ⟨k5 - 1, by omega⟩
          subst hj5
          obtain ⟨a5, hra5, v15, v25, v35, v45, v55, v65, v75, v85, hca5⟩ := hRA j5 (by omega)
          have hra6 : RAk j5 = some a5 := (hk1 j5 (by omega)).1.trans hra5
          have hwt6 : WTk j5 = nI (wt j5) := (hk1 j5 (by omega)).2.trans (hWT j5 (by omega))
          have hwb6 := hwb.1 j5 (by omega)
          refine lv_aload_n hx hb dX6_insert_31 rfl (lv_at hl 2 rfl) ?_
          refine va_get (D := (dC, dI)) (ci := 5) (v := .ref zw) (C := RX6) (T := TX6) (N := 6) hx hb hts inX6 hown hK hP 0 rfl rfl 1 (Nat.le_of_ble_eq_true rfl) (hts _ mw_247) (fun _ h9 => h9) rfl dX6_insert_32 ?_
          refine lv_iload hx hb dX6_insert_35 (lv_at hl 0 rfl) ?_
          refine zz_i (v := nI j5) (ii_nat (by omega) (by omega)) ?_
          have b9_5 : j5 < 200 := by omega
          refine z_iald hx hb hK hP 2 0 rfl rfl (e := j5) rfl b9_5 (Nat.le_of_ble_eq_true rfl) dX6_insert_37 ?_
          refine zz_i (v := nI (wt j5)) (hwt6) ?_
          refine lv_iload_n hx hb dX6_insert_38 rfl (lv_at hl 4 rfl) ?_
          have b9_7 : zlt ((wt j5)) := show (wt j5) < 2147483648 by omega
          have b9_8 : zlt (wt9) := show wt9 < 2147483648 by omega
          refine lv_icmp_le (tgt := 83) hx hb dX6_insert_39 rfl (fun c_6 => ?_) (fun c_6 => ?_)
          · have c_6 : ((wt j5 : Nat) : Int) ≤ ((wt9 : Nat) : Int) := zc_le (nI_toInt b9_7) (nI_toInt b9_8) c_6
            have hc9_1 : inPl L f [(fq, .inr (1, [v16, v26, v36, v46, v56, v66, v76, v86]))] := ⟨hcq6, trivial⟩
            have hD0_1 := hD
            obtain ⟨T_1, hT_1, hP, hD⟩ := pl_oT hP hD hc9_1 (List.pairwise_singleton _ _)
            obtain ⟨hP, hD⟩ := zre (W2 := ([_, _, _, _] ++ va_pl T_1 f)) hP hD rfl
            refine lv_aload_n hx hb dX6_insert_83 rfl (lv_at hl 2 rfl) ?_
            refine va_get (D := (dC, dI)) (ci := 5) (v := .ref za) (C := RX6) (T := TX6) (N := 6) hx hb hts inX6 hown hK hP 0 rfl rfl 0 (Nat.le_of_ble_eq_true rfl) (hts _ mw_246) (fun _ h9 => h9) rfl dX6_insert_84 ?_
            refine lv_iload_n hx hb dX6_insert_87 rfl (lv_at hl 1 rfl) ?_
            refine lv_aload_n hx hb dX6_insert_88 rfl (lv_at hl 3 rfl) ?_
            have b9_9 : j5 + 1 < 200 := by omega
            refine z_aast hx hb hK hP hD hS 1 2 3 1 rfl rfl rfl rfl (e := j5 + 1) rfl b9_9 (Nat.le_of_ble_eq_true rfl) dX6_insert_89 (fun H locs hP hD hS => ?_)
            obtain ⟨hP, hD⟩ := zre (W2 := ([_, (oq za cF 200 (va_up RAk (j5 + 1) (some fq))), _, _] ++ va_pl T_1 f)) hP hD rfl
            obtain ⟨hP, hD⟩ := pl_bk (X := [_, _, _]) hT_1 hP rfl hc9_1 hD0_1 rfl
            refine lv_aload_n hx hb dX6_insert_90 rfl (lv_at hl 2 rfl) ?_
            refine va_get (D := (dC, dI)) (ci := 5) (v := .ref zw) (C := RX6) (T := TX6) (N := 6) hx hb hts inX6 hown hK hP 0 rfl rfl 1 (Nat.le_of_ble_eq_true rfl) (hts _ mw_247) (fun _ h9 => h9) rfl dX6_insert_91 ?_
            refine lv_iload_n hx hb dX6_insert_94 rfl (lv_at hl 1 rfl) ?_
            refine lv_iload_n hx hb dX6_insert_95 rfl (lv_at hl 4 rfl) ?_
            refine z_iast hx hb hK hP hD hS 2 0 rfl rfl (e := j5 + 1) (x := nI wt9) rfl b9_9 (Nat.le_of_ble_eq_true rfl) dX6_insert_96 (fun H locs hP hD hS => ?_)
            obtain ⟨hP, hD⟩ := zre (W2 := ([_, _, (oa zw cI 200 (upd WTk (j5 + 1) (nI wt9)))] ++ va_pl L f)) hP hD rfl
            refine lv_aload_n hx hb dX6_insert_97 rfl (lv_at hl 2 rfl) ?_
            refine lv_dup hx hb dX6_insert_98 rfl ?_
            refine va_get (D := (dC, dI)) (ci := 5) (v := .int (nI n)) (C := RX6) (T := TX6) (N := 6) hx hb hts inX6 hown hK hP 0 rfl rfl 5 (Nat.le_of_ble_eq_true rfl) (hts _ mw_251) (fun _ h9 => h9) rfl dX6_insert_99 ?_
            refine lv_iconst (v := 1) hx hb dX6_insert_102 rfl ?_
            refine lv_iadd hx hb dX6_insert_103 ?_
            refine zz_i (v := nI (n + 1)) (nI_add n 1) ?_
            refine va_put (D := (dC, dI)) (ci := 5) (v := .int (nI (n + 1))) (ty := .int) (C := RX6) (T := TX6) (N := 6) hx hb hts inX6 tyX6 tyX6_ok nmX6 hown hK hP hD hS 0 rfl rfl 5 (by decide) (hts _ mw_251) (fun _ h9 => h9) rfl (by decide +kernel) rfl rfl (Nat.le_of_ble_eq_true rfl) dX6_insert_104 (fun H locs hP hD hS => ?_)
            obtain ⟨hP, hD⟩ := zre (W2 := ([(oc5 ro (.ref za) (.ref zw) (.ref zx) (.ref zy) (.ref zg) (nI (n + 1))), _, _] ++ va_pl L f)) hP hD rfl
            have hie := ins_e (q := fq) (p := j5 + 1) (w := wt9) hk1 hk2 (fun k hk => Nat.le_trans (hso k j5 (by omega) (by omega)) (by omega))
            obtain ⟨hP9, hD9⟩ := zu_part (cx := [_, _, _]) hP hD [true, true, true] rfl rfl
            rw [hQ9]
            exact W.vret hx hb hr (fun t ht hW => ⟨⟨rfl, (j5 + 1), (va_up RAk (j5 + 1) (some fq)), (upd WTk (j5 + 1) (nI wt9)), (by omega), (hie.1), (hie.2.1), (hie.2.2), by rw [ht]; exact hP9, hD9⟩, hS.F ht⟩) hS.2.2 dX6_insert_107
          · have c_6 : ((wt9 : Nat) : Int) < ((wt j5 : Nat) : Int) := zc_nle (nI_toInt b9_7) (nI_toInt b9_8) c_6
            have hc9_1 : inPl L f [(a5, .inr (1, [v15, v25, v35, v45, v55, v65, v75, v85]))] := ⟨hca5, trivial⟩
            have hD0_1 := hD
            obtain ⟨T_1, hT_1, hP, hD⟩ := pl_oT hP hD hc9_1 (List.pairwise_singleton _ _)
            obtain ⟨hP, hD⟩ := zre (W2 := ([_, _, _, _] ++ va_pl T_1 f)) hP hD rfl
            refine lv_aload_n hx hb dX6_insert_42 rfl (lv_at hl 2 rfl) ?_
            refine va_get (D := (dC, dI)) (ci := 5) (v := .ref za) (C := RX6) (T := TX6) (N := 6) hx hb hts inX6 hown hK hP 0 rfl rfl 0 (Nat.le_of_ble_eq_true rfl) (hts _ mw_246) (fun _ h9 => h9) rfl dX6_insert_43 ?_
            refine lv_iload hx hb dX6_insert_46 (lv_at hl 0 rfl) ?_
            refine zz_i (v := nI j5) (ii_nat (by omega) (by omega)) ?_
            refine lv_iconst (v := 1) hx hb dX6_insert_48 rfl ?_
            refine lv_iadd hx hb dX6_insert_49 ?_
            refine zz_i (v := nI (j5 + 1)) (nI_add j5 1) ?_
            refine lv_aload_n hx hb dX6_insert_50 rfl (lv_at hl 2 rfl) ?_
            refine va_get (D := (dC, dI)) (ci := 5) (v := .ref za) (C := RX6) (T := TX6) (N := 6) hx hb hts inX6 hown hK hP 0 rfl rfl 0 (Nat.le_of_ble_eq_true rfl) (hts _ mw_246) (fun _ h9 => h9) rfl dX6_insert_51 ?_
            refine lv_iload hx hb dX6_insert_54 (lv_at hl 0 rfl) ?_
            refine zz_i (v := nI j5) (ii_nat (by omega) (by omega)) ?_
            refine z_aald hx hb hK hP 1 2 rfl rfl (e := j5) rfl b9_5 (Nat.le_of_ble_eq_true rfl) (v := .ref a5) (by rw [hra6]; rfl) dX6_insert_56 ?_
            have b9_10 : j5 + 1 < 200 := by omega
            refine z_aast hx hb hK hP hD hS 1 2 3 1 rfl rfl rfl rfl (e := j5 + 1) rfl b9_10 (Nat.le_of_ble_eq_true rfl) dX6_insert_57 (fun H locs hP hD hS => ?_)
            obtain ⟨hP, hD⟩ := zre (W2 := ([_, (oq za cF 200 (va_up RAk (j5 + 1) (some a5))), _, _] ++ va_pl T_1 f)) hP hD rfl
            obtain ⟨hP, hD⟩ := pl_bk (X := [_, _, _]) hT_1 hP rfl hc9_1 hD0_1 rfl
            refine lv_aload_n hx hb dX6_insert_58 rfl (lv_at hl 2 rfl) ?_
            refine va_get (D := (dC, dI)) (ci := 5) (v := .ref zw) (C := RX6) (T := TX6) (N := 6) hx hb hts inX6 hown hK hP 0 rfl rfl 1 (Nat.le_of_ble_eq_true rfl) (hts _ mw_247) (fun _ h9 => h9) rfl dX6_insert_59 ?_
            refine lv_iload hx hb dX6_insert_62 (lv_at hl 0 rfl) ?_
            refine zz_i (v := nI j5) (ii_nat (by omega) (by omega)) ?_
            refine lv_iconst (v := 1) hx hb dX6_insert_64 rfl ?_
            refine lv_iadd hx hb dX6_insert_65 ?_
            refine zz_i (v := nI (j5 + 1)) (nI_add j5 1) ?_
            refine lv_aload_n hx hb dX6_insert_66 rfl (lv_at hl 2 rfl) ?_
            refine va_get (D := (dC, dI)) (ci := 5) (v := .ref zw) (C := RX6) (T := TX6) (N := 6) hx hb hts inX6 hown hK hP 0 rfl rfl 1 (Nat.le_of_ble_eq_true rfl) (hts _ mw_247) (fun _ h9 => h9) rfl dX6_insert_67 ?_
            refine lv_iload hx hb dX6_insert_70 (lv_at hl 0 rfl) ?_
            refine zz_i (v := nI j5) (ii_nat (by omega) (by omega)) ?_
            refine z_iald hx hb hK hP 2 0 rfl rfl (e := j5) rfl b9_5 (Nat.le_of_ble_eq_true rfl) dX6_insert_72 ?_
            refine zz_i (v := nI (wt j5)) (hwt6) ?_
            refine z_iast hx hb hK hP hD hS 2 0 rfl rfl (e := j5 + 1) (x := nI (wt j5)) rfl b9_10 (Nat.le_of_ble_eq_true rfl) dX6_insert_73 (fun H locs hP hD hS => ?_)
            obtain ⟨hP, hD⟩ := zre (W2 := ([_, _, (oa zw cI 200 (upd WTk (j5 + 1) (nI (wt j5))))] ++ va_pl L f)) hP hD rfl
            refine lv_iload hx hb dX6_insert_74 (lv_at hl 0 rfl) ?_
            refine zz_i (v := nI j5) (ii_nat (by omega) (by omega)) ?_
            refine lv_istore_n (lv' := [(3, .int (nI j5)), (4, .int (iI ((((j5 + 1) : Nat) : Int) - 1))), (0, .ref ro), (1, .ref fq), (2, .int (nI wt9))]) hx hb dX6_insert_76 rfl hl (Nat.le_of_ble_eq_true rfl) rfl (fun ls hl => ?_)
            have hst9 := ins_s (w := wt9) hk1 hk2 hra6 hwt6 (by omega)
            refine lv_iinc (v := iI ((((j5 + 1) : Nat) : Int) - 1 - 1)) (lv' := [(4, .int (iI ((((j5 + 1) : Nat) : Int) - 1 - 1))), (3, .int (nI j5)), (0, .ref ro), (1, .ref fq), (2, .int (nI wt9))]) hx hb dX6_insert_77 hl (k := 1) rfl (ii_dec (by omega)) (Nat.le_of_ble_eq_true rfl) rfl (fun ls hl => ?_)
            refine lv_goto (tgt := 26) hx hb dX6_insert_80 rfl ?_
            have hl9 := lv_sub hl [0, 1, 2, 3, 4] rfl
            have e9_4 : iI (((j5 : Nat) : Int) - 1) = (iI ((((j5 + 1) : Nat) : Int) - 1 - 1) : Int32) := by exact congrArg iI (by omega)
            have hl9 : lv_has ls 5 [(4, .int (iI (((j5 : Nat) : Int) - 1))), (3, .int (nI j5)), (0, .ref ro), (1, .ref fq), (2, .int (nI wt9))] := by rw [e9_4]; exact hl9
            exact ih_26 j5 (va_up RAk (j5 + 1) (some a5)) (upd WTk (j5 + 1) (nI (wt j5))) H locs ls (by first | with_reducible assumption | omega) (by first | with_reducible assumption | omega) (hst9.1) (hst9.2) hP hD hS hl9
    have e9_4 : iI (((n : Nat) : Int) - 1) = (iI (((n : Nat) : Int) - 1) : Int32) := by rfl
    have hl9 : lv_has ls 5 [(4, .int (iI (((n : Nat) : Int) - 1))), (3, .int (nI n)), (0, .ref ro), (1, .ref fq), (2, .int (nI wt9))] := by rw [e9_4]; exact lv_sub hl [0, 1, 2, 3, 4] rfl
    exact hl_26 _ n RA WT s.heap [] ls (Nat.lt_succ_self _) (by first | with_reducible assumption | omega) (fun k _ => ⟨rfl, rfl⟩) (fun k h1 h2 => by omega) hP hD hS hl9
  · have c_1 : 200 ≤ ((n : Nat) : Int) := zc_nlt (nI_toInt b9_2) rfl c_1
    exfalso; omega
set_option maxHeartbeats 4000000 in
set_option maxRecDepth 100000 in
theorem k_Roads_setEnd (l : Launch) (dC : Nat → ClassId) (dI : Nat → Nat → Nat) (cI cZ cF : ClassId) (sz : Nat) (ro : Nat) (za : Nat) (zw : Nat) (zx : Nat) (zy : Nat) (zg : Nat) (m9 : Nat) (nv : Int32) (px : Int32) (py : Int32) (EX : Nat → Int32) (EY : Nat → Int32) (GR : Nat → Int32) (hm9 : m9 < 400) : zM l yX6_setEnd cX6_setEnd 5 none ({ frames := 0, cells := 0, slots := 0, locals := 0 } : Room) [.ref ro, .int (nI m9), .int px, .int py] (dC, dI) (zTy cI cZ cF) [(oc5 ro (.ref za) (.ref zw) (.ref zx) (.ref zy) (.ref zg) nv), (oa zx cI 400 EX), (oa zy cI 400 EY), (oa zg cI 400 GR)] sz none (fun A t => ∃ (k9 : Nat), ∃ (GR1 : Nat → Int32), (k9 ≤ m9 ∧ GR1 = upd GR m9 (nI k9)) ∧ (((upd EX m9 px) k9).toInt = px.toInt ∧ ((upd EY m9 py) k9).toInt = py.toInt) ∧ (∀ i, i < k9 → ¬ (((upd EX m9 px) i).toInt = px.toInt ∧ ((upd EY m9 py) i).toInt = py.toInt)) ∧ zPD (dC, dI) classes A [(oc5 ro (.ref za) (.ref zw) (.ref zx) (.ref zy) (.ref zg) nv), (oa zx cI 400 (upd EX m9 px)), (oa zy cI 400 (upd EY m9 py)), (oa zg cI 400 GR1)] t.heap) 0 0 := by
  refine zIn (own := "ScaleShop$Roads") (loc := [(0, .ref ro), (1, .int (nI m9)), (2, .int px), (3, .int py)]) rfl rfl rfl rfl (fun p e s m below meth c hx hb hr hts hown hlocks hml hnm9 A hA hS hP hD hK hXN Q9 hQ9 ls hl => ?_)
  refine lv_aload_n hx hb dX6_setEnd_0 rfl (lv_at hl 0 rfl) ?_
  refine va_get (D := (dC, dI)) (ci := 5) (v := .ref zx) (C := RX6) (T := TX6) (N := 6) hx hb hts inX6 hown hK hP 0 rfl rfl 2 (Nat.le_of_ble_eq_true rfl) (hts _ mw_248) (fun _ h9 => h9) rfl dX6_setEnd_1 ?_
  refine lv_iload_n hx hb dX6_setEnd_4 rfl (lv_at hl 1 rfl) ?_
  refine lv_iload_n hx hb dX6_setEnd_5 rfl (lv_at hl 2 rfl) ?_
  have b9_1 : m9 < 400 := by omega
  refine z_iast hx hb hK hP hD hS 1 0 rfl rfl (e := m9) (x := px) rfl b9_1 (Nat.le_of_ble_eq_true rfl) dX6_setEnd_6 (fun H locs hP hD hS => ?_)
  obtain ⟨hP, hD⟩ := zre (W2 := [_, (oa zx cI 400 (upd EX m9 px)), _, _]) hP hD rfl
  refine lv_aload_n hx hb dX6_setEnd_7 rfl (lv_at hl 0 rfl) ?_
  refine va_get (D := (dC, dI)) (ci := 5) (v := .ref zy) (C := RX6) (T := TX6) (N := 6) hx hb hts inX6 hown hK hP 0 rfl rfl 3 (Nat.le_of_ble_eq_true rfl) (hts _ mw_249) (fun _ h9 => h9) rfl dX6_setEnd_8 ?_
  refine lv_iload_n hx hb dX6_setEnd_11 rfl (lv_at hl 1 rfl) ?_
  refine lv_iload_n hx hb dX6_setEnd_12 rfl (lv_at hl 3 rfl) ?_
  refine z_iast hx hb hK hP hD hS 2 0 rfl rfl (e := m9) (x := py) rfl b9_1 (Nat.le_of_ble_eq_true rfl) dX6_setEnd_13 (fun H locs hP hD hS => ?_)
  obtain ⟨hP, hD⟩ := zre (W2 := [_, _, (oa zy cI 400 (upd EY m9 py)), _]) hP hD rfl
  refine lv_iconst (v := 0) hx hb dX6_setEnd_14 rfl ?_
  refine lv_istore (lv' := [(4, .int 0), (0, .ref ro), (1, .int (nI m9)), (2, .int px), (3, .int py)]) hx hb dX6_setEnd_15 hl (Nat.le_of_ble_eq_true rfl) rfl (fun ls hl => ?_)
  have hl_17 : ∀ (n9 : Nat) (k5 : Nat) (H : Heap) (locs : List Loc) (ls : Array Slot), m9 - k5 < n9 → (k5 ≤ m9) → (∀ i, i < k5 → ¬ (((upd EX m9 px) i).toInt = px.toInt ∧ ((upd EY m9 py) i).toInt = py.toInt)) → va_P (dC, dI) classes [(oc5 ro (.ref za) (.ref zw) (.ref zx) (.ref zy) (.ref zg) nv), (oa zx cI 400 (upd EX m9 px)), (oa zy cI 400 (upd EY m9 py)), (oa zg cI 400 GR)] H → va_D A [(oc5 ro (.ref za) (.ref zw) (.ref zx) (.ref zy) (.ref zg) nv), (oa zx cI 400 (upd EX m9 px)), (oa zy cI 400 (upd EY m9 py)), (oa zg cI 400 GR)] → va_S A s.heap H locs → lv_has ls 5 [(4, .int (nI k5)), (0, .ref ro), (1, .int (nI m9)), (2, .int px), (3, .int py)] → W p l e ({ frames := 0, cells := 0, slots := 0, locals := 0 } : Room) s m ([.ref ro, .int (nI m9), .int px, .int py] : List Value).toArray below meth c H locs 0 0 Q9 (F0 m 17 ls []) := by
    intro n9
    induction n9 with
    | zero => intro k5 H locs ls hm; exact absurd hm (Nat.not_lt_zero _)
    | succ n9 ih_17 =>
      intro k5 H locs ls hm hk5 hno hP hD hS hl
      refine lv_iload hx hb dX6_setEnd_17 (lv_at hl 0 rfl) ?_
      refine lv_iload_n hx hb dX6_setEnd_19 rfl (lv_at hl 2 rfl) ?_
      have b9_3 : zlt (k5) := show k5 < 2147483648 by omega
      have b9_4 : zlt (m9) := show m9 < 2147483648 by omega
      refine lv_icmp_ge (tgt := 51) hx hb dX6_setEnd_20 rfl (fun c_2 => ?_) (fun c_2 => ?_)
      · have c_2 : ((m9 : Nat) : Int) ≤ ((k5 : Nat) : Int) := zc_le (nI_toInt b9_4) (nI_toInt b9_3) c_2
        refine lv_aload_n hx hb dX6_setEnd_51 rfl (lv_at hl 1 rfl) ?_
        refine va_get (D := (dC, dI)) (ci := 5) (v := .ref zg) (C := RX6) (T := TX6) (N := 6) hx hb hts inX6 hown hK hP 0 rfl rfl 4 (Nat.le_of_ble_eq_true rfl) (hts _ mw_250) (fun _ h9 => h9) rfl dX6_setEnd_52 ?_
        refine lv_iload_n hx hb dX6_setEnd_55 rfl (lv_at hl 2 rfl) ?_
        refine lv_iload hx hb dX6_setEnd_56 (lv_at hl 0 rfl) ?_
        refine z_iast hx hb hK hP hD hS 3 0 rfl rfl (e := m9) (x := nI k5) rfl b9_1 (Nat.le_of_ble_eq_true rfl) dX6_setEnd_58 (fun H locs hP hD hS => ?_)
        obtain ⟨hP, hD⟩ := zre (W2 := [_, _, _, (oa zg cI 400 (upd GR m9 (nI k5)))]) hP hD rfl
        have hpq : ((upd EX m9 px) k5).toInt = px.toInt ∧ ((upd EY m9 py) k5).toInt = py.toInt := (by first | (rw [show k5 = m9 by omega, up_at, up_at]; exact ⟨rfl, rfl⟩) | exact ⟨by assumption, by assumption⟩)
        obtain ⟨hP9, hD9⟩ := zu_sub (wc := [_, _, _, _]) hP hD [true, true, true, true] rfl rfl
        rw [hQ9]
        exact W.vret hx hb hr (fun t ht hW => ⟨⟨rfl, k5, (upd GR m9 (nI k5)), (⟨by omega, rfl⟩), (hpq), (hno), by rw [ht]; exact hP9, hD9⟩, hS.F ht⟩) hS.2.2 dX6_setEnd_59
      · have c_2 : ((k5 : Nat) : Int) < ((m9 : Nat) : Int) := zc_nle (nI_toInt b9_4) (nI_toInt b9_3) c_2
        refine lv_aload_n hx hb dX6_setEnd_23 rfl (lv_at hl 1 rfl) ?_
        refine va_get (D := (dC, dI)) (ci := 5) (v := .ref zx) (C := RX6) (T := TX6) (N := 6) hx hb hts inX6 hown hK hP 0 rfl rfl 2 (Nat.le_of_ble_eq_true rfl) (hts _ mw_248) (fun _ h9 => h9) rfl dX6_setEnd_24 ?_
        refine lv_iload hx hb dX6_setEnd_27 (lv_at hl 0 rfl) ?_
        have b9_5 : k5 < 400 := by omega
        refine z_iald hx hb hK hP 1 0 rfl rfl (e := k5) rfl b9_5 (Nat.le_of_ble_eq_true rfl) dX6_setEnd_29 ?_
        refine lv_iload_n hx hb dX6_setEnd_30 rfl (lv_at hl 3 rfl) ?_
        refine lv_icmp_ne (tgt := 45) hx hb dX6_setEnd_31 rfl (fun c_6 => ?_) (fun c_6 => ?_)
        · have c_6 : ¬ ((upd EX m9 px) k5).toInt = px.toInt := zc_ne rfl rfl c_6
          refine lv_iinc (v := nI (k5 + 1)) (lv' := [(4, .int (nI (k5 + 1))), (0, .ref ro), (1, .int (nI m9)), (2, .int px), (3, .int py)]) hx hb dX6_setEnd_45 hl (k := 0) rfl (nI_add k5 1) (Nat.le_of_ble_eq_true rfl) rfl (fun ls hl => ?_)
          refine lv_goto (tgt := 17) hx hb dX6_setEnd_48 rfl ?_
          exact ih_17 (k5 + 1) H locs ls (by first | with_reducible assumption | omega) (by first | with_reducible assumption | omega) (by intro i hi; rcases Nat.lt_or_ge i k5 with h | h; exact hno i h; rw [show i = k5 by omega]; omega) hP hD hS (lv_sub hl [0, 1, 2, 3, 4] rfl)
        · have c_6 : ((upd EX m9 px) k5).toInt = px.toInt := zc_eq rfl rfl c_6
          refine lv_aload_n hx hb dX6_setEnd_34 rfl (lv_at hl 1 rfl) ?_
          refine va_get (D := (dC, dI)) (ci := 5) (v := .ref zy) (C := RX6) (T := TX6) (N := 6) hx hb hts inX6 hown hK hP 0 rfl rfl 3 (Nat.le_of_ble_eq_true rfl) (hts _ mw_249) (fun _ h9 => h9) rfl dX6_setEnd_35 ?_
          refine lv_iload hx hb dX6_setEnd_38 (lv_at hl 0 rfl) ?_
          have b9_7 : k5 < 400 := by omega
          refine z_iald hx hb hK hP 2 0 rfl rfl (e := k5) rfl b9_7 (Nat.le_of_ble_eq_true rfl) dX6_setEnd_40 ?_
          refine lv_iload_n hx hb dX6_setEnd_41 rfl (lv_at hl 4 rfl) ?_
          refine lv_icmp_eq (tgt := 51) hx hb dX6_setEnd_42 rfl (fun c_8 => ?_) (fun c_8 => ?_)
          · have c_8 : ((upd EY m9 py) k5).toInt = py.toInt := zc_eq rfl rfl c_8
            refine lv_aload_n hx hb dX6_setEnd_51 rfl (lv_at hl 1 rfl) ?_
            refine va_get (D := (dC, dI)) (ci := 5) (v := .ref zg) (C := RX6) (T := TX6) (N := 6) hx hb hts inX6 hown hK hP 0 rfl rfl 4 (Nat.le_of_ble_eq_true rfl) (hts _ mw_250) (fun _ h9 => h9) rfl dX6_setEnd_52 ?_
            refine lv_iload_n hx hb dX6_setEnd_55 rfl (lv_at hl 2 rfl) ?_
            refine lv_iload hx hb dX6_setEnd_56 (lv_at hl 0 rfl) ?_
            refine z_iast hx hb hK hP hD hS 3 0 rfl rfl (e := m9) (x := nI k5) rfl b9_1 (Nat.le_of_ble_eq_true rfl) dX6_setEnd_58 (fun H locs hP hD hS => ?_)
            obtain ⟨hP, hD⟩ := zre (W2 := [_, _, _, (oa zg cI 400 (upd GR m9 (nI k5)))]) hP hD rfl
            have hpq : ((upd EX m9 px) k5).toInt = px.toInt ∧ ((upd EY m9 py) k5).toInt = py.toInt := (by first | (rw [show k5 = m9 by omega, up_at, up_at]; exact ⟨rfl, rfl⟩) | exact ⟨by assumption, by assumption⟩)
            obtain ⟨hP9, hD9⟩ := zu_sub (wc := [_, _, _, _]) hP hD [true, true, true, true] rfl rfl
            rw [hQ9]
            exact W.vret hx hb hr (fun t ht hW => ⟨⟨rfl, k5, (upd GR m9 (nI k5)), (⟨by omega, rfl⟩), (hpq), (hno), by rw [ht]; exact hP9, hD9⟩, hS.F ht⟩) hS.2.2 dX6_setEnd_59
          · have c_8 : ¬ ((upd EY m9 py) k5).toInt = py.toInt := zc_ne rfl rfl c_8
            refine lv_iinc (v := nI (k5 + 1)) (lv' := [(4, .int (nI (k5 + 1))), (0, .ref ro), (1, .int (nI m9)), (2, .int px), (3, .int py)]) hx hb dX6_setEnd_45 hl (k := 0) rfl (nI_add k5 1) (Nat.le_of_ble_eq_true rfl) rfl (fun ls hl => ?_)
            refine lv_goto (tgt := 17) hx hb dX6_setEnd_48 rfl ?_
            exact ih_17 (k5 + 1) H locs ls (by first | with_reducible assumption | omega) (by first | with_reducible assumption | omega) (by intro i hi; rcases Nat.lt_or_ge i k5 with h | h; exact hno i h; rw [show i = k5 by omega]; omega) hP hD hS (lv_sub hl [0, 1, 2, 3, 4] rfl)
  exact hl_17 _ 0 H locs ls (Nat.lt_succ_self _) (by first | with_reducible assumption | omega) (by intro i hi; omega) hP hD hS (lv_sub hl [0, 1, 2, 3, 4] rfl)
set_option maxHeartbeats 4000000 in
set_option maxRecDepth 100000 in
theorem k_Roads_unite (l : Launch) (dC : Nat → ClassId) (dI : Nat → Nat → Nat) (cI cZ cF : ClassId) (sz : Nat) (ro : Nat) (za : Nat) (zw : Nat) (zx : Nat) (zy : Nat) (zg : Nat) (n : Nat) (A9 : Int32) (B9 : Int32) (GR : Nat → Int32) (hn : n ≤ 200) : zM l yX6_uniteGroups cX6_uniteGroups 4 none ({ frames := 0, cells := 0, slots := 0, locals := 0 } : Room) [.ref ro, .int A9, .int B9] (dC, dI) (zTy cI cZ cF) [(oc5 ro (.ref za) (.ref zw) (.ref zx) (.ref zy) (.ref zg) (nI n)), (oa zg cI 400 GR)] sz none (fun A t => ∃ (GR1 : Nat → Int32), (∀ k, k < 2 * n → GR1 k = if GR k = B9 then A9 else GR k) ∧ zPD (dC, dI) classes A [(oc5 ro (.ref za) (.ref zw) (.ref zx) (.ref zy) (.ref zg) (nI n)), (oa zg cI 400 GR1)] t.heap) 0 0 := by
  refine zIn (own := "ScaleShop$Roads") (loc := [(0, .ref ro), (1, .int A9), (2, .int B9)]) rfl rfl rfl rfl (fun p e s m below meth c hx hb hr hts hown hlocks hml hnm9 A hA hS hP hD hK hXN Q9 hQ9 ls hl => ?_)
  refine lv_iconst (v := 0) hx hb dX6_uniteGroups_0 rfl ?_
  refine lv_istore_n (lv' := [(3, .int 0), (0, .ref ro), (1, .int A9), (2, .int B9)]) hx hb dX6_uniteGroups_1 rfl hl (Nat.le_of_ble_eq_true rfl) rfl (fun ls hl => ?_)
  have hl_2 : ∀ (n9 : Nat) (k5 : Nat) (GRk : Nat → Int32) (H : Heap) (locs : List Loc) (ls : Array Slot), 2 * n - k5 < n9 → (k5 ≤ 2 * n) → (∀ j, j < k5 → GRk j = if GR j = B9 then A9 else GR j) → (∀ j, k5 ≤ j → GRk j = GR j) → va_P (dC, dI) classes [(oc5 ro (.ref za) (.ref zw) (.ref zx) (.ref zy) (.ref zg) (nI n)), (oa zg cI 400 GRk)] H → va_D A [(oc5 ro (.ref za) (.ref zw) (.ref zx) (.ref zy) (.ref zg) (nI n)), (oa zg cI 400 GRk)] → va_S A s.heap H locs → lv_has ls 4 [(3, .int (nI k5)), (0, .ref ro), (1, .int A9), (2, .int B9)] → W p l e ({ frames := 0, cells := 0, slots := 0, locals := 0 } : Room) s m ([.ref ro, .int A9, .int B9] : List Value).toArray below meth c H locs 0 0 Q9 (F0 m 2 ls []) := by
    intro n9
    induction n9 with
    | zero => intro k5 GRk H locs ls hm; exact absurd hm (Nat.not_lt_zero _)
    | succ n9 ih_2 =>
      intro k5 GRk H locs ls hm hk5 hg1 hg2 hP hD hS hl
      refine lv_iload_n hx hb dX6_uniteGroups_2 rfl (lv_at hl 0 rfl) ?_
      refine lv_iconst (v := 2) hx hb dX6_uniteGroups_3 rfl ?_
      refine lv_aload_n hx hb dX6_uniteGroups_4 rfl (lv_at hl 1 rfl) ?_
      refine va_get (D := (dC, dI)) (ci := 5) (v := .int (nI n)) (C := RX6) (T := TX6) (N := 6) hx hb hts inX6 hown hK hP 0 rfl rfl 5 (Nat.le_of_ble_eq_true rfl) (hts _ mw_251) (fun _ h9 => h9) rfl dX6_uniteGroups_5 ?_
      refine lv_imul hx hb dX6_uniteGroups_8 ?_
      refine zz_i (v := nI (2 * n)) (pk_mul 2 n) ?_
      have b9_2 : zlt (k5) := show k5 < 2147483648 by omega
      have b9_3 : zlt ((2 * n)) := show (2 * n) < 2147483648 by omega
      refine lv_icmp_ge (tgt := 35) hx hb dX6_uniteGroups_9 rfl (fun c_1 => ?_) (fun c_1 => ?_)
      · have c_1 : ((2 * n : Nat) : Int) ≤ ((k5 : Nat) : Int) := zc_le (nI_toInt b9_3) (nI_toInt b9_2) c_1
        have hke : k5 = 2 * n := (by omega)
        rw [hke] at hg1
        obtain ⟨hP9, hD9⟩ := zu_sub (wc := [_, _]) hP hD [true, true] rfl rfl
        rw [hQ9]
        exact W.vret hx hb hr (fun t ht hW => ⟨⟨rfl, GRk, (hg1), by rw [ht]; exact hP9, hD9⟩, hS.F ht⟩) hS.2.2 dX6_uniteGroups_35
      · have c_1 : ((k5 : Nat) : Int) < ((2 * n : Nat) : Int) := zc_nle (nI_toInt b9_3) (nI_toInt b9_2) c_1
        refine lv_aload_n hx hb dX6_uniteGroups_12 rfl (lv_at hl 1 rfl) ?_
        refine va_get (D := (dC, dI)) (ci := 5) (v := .ref zg) (C := RX6) (T := TX6) (N := 6) hx hb hts inX6 hown hK hP 0 rfl rfl 4 (Nat.le_of_ble_eq_true rfl) (hts _ mw_250) (fun _ h9 => h9) rfl dX6_uniteGroups_13 ?_
        refine lv_iload_n hx hb dX6_uniteGroups_16 rfl (lv_at hl 0 rfl) ?_
        have b9_4 : k5 < 400 := by omega
        refine z_iald hx hb hK hP 1 0 rfl rfl (e := k5) rfl b9_4 (Nat.le_of_ble_eq_true rfl) dX6_uniteGroups_17 ?_
        refine lv_iload_n hx hb dX6_uniteGroups_18 rfl (lv_at hl 3 rfl) ?_
        refine lv_icmp_ne (tgt := 29) hx hb dX6_uniteGroups_19 rfl (fun c_5 => ?_) (fun c_5 => ?_)
        · have c_5 : ¬ (GRk k5).toInt = B9.toInt := zc_ne rfl rfl c_5
          refine lv_iinc (v := nI (k5 + 1)) (lv' := [(3, .int (nI (k5 + 1))), (0, .ref ro), (1, .int A9), (2, .int B9)]) hx hb dX6_uniteGroups_29 hl (k := 0) rfl (nI_add k5 1) (Nat.le_of_ble_eq_true rfl) rfl (fun ls hl => ?_)
          refine lv_goto (tgt := 2) hx hb dX6_uniteGroups_32 rfl ?_
          exact ih_2 (k5 + 1) GRk H locs ls (by first | with_reducible assumption | omega) (by first | with_reducible assumption | omega) (by first | exact chG_s hg1 (hg2 k5 (Nat.le_refl _)) (Or.inl ⟨by assumption, rfl⟩) | exact unG_n hg1 (hg2 k5 (Nat.le_refl _)) (by first | with_reducible assumption | assumption)) (by first | exact fun j hj => (if_neg (by first | with_reducible assumption | omega)).trans (hg2 j (by first | with_reducible assumption | omega)) | exact fun j hj => hg2 j (by first | with_reducible assumption | omega)) hP hD hS (lv_sub hl [0, 1, 2, 3] rfl)
        · have c_5 : (GRk k5).toInt = B9.toInt := zc_eq rfl rfl c_5
          refine lv_aload_n hx hb dX6_uniteGroups_22 rfl (lv_at hl 1 rfl) ?_
          refine va_get (D := (dC, dI)) (ci := 5) (v := .ref zg) (C := RX6) (T := TX6) (N := 6) hx hb hts inX6 hown hK hP 0 rfl rfl 4 (Nat.le_of_ble_eq_true rfl) (hts _ mw_250) (fun _ h9 => h9) rfl dX6_uniteGroups_23 ?_
          refine lv_iload_n hx hb dX6_uniteGroups_26 rfl (lv_at hl 0 rfl) ?_
          refine lv_iload_n hx hb dX6_uniteGroups_27 rfl (lv_at hl 2 rfl) ?_
          refine z_iast hx hb hK hP hD hS 1 0 rfl rfl (e := k5) (x := A9) rfl b9_4 (Nat.le_of_ble_eq_true rfl) dX6_uniteGroups_28 (fun H locs hP hD hS => ?_)
          obtain ⟨hP, hD⟩ := zre (W2 := [_, (oa zg cI 400 (upd GRk k5 A9))]) hP hD rfl
          refine lv_iinc (v := nI (k5 + 1)) (lv' := [(3, .int (nI (k5 + 1))), (0, .ref ro), (1, .int A9), (2, .int B9)]) hx hb dX6_uniteGroups_29 hl (k := 0) rfl (nI_add k5 1) (Nat.le_of_ble_eq_true rfl) rfl (fun ls hl => ?_)
          refine lv_goto (tgt := 2) hx hb dX6_uniteGroups_32 rfl ?_
          exact ih_2 (k5 + 1) (upd GRk k5 A9) H locs ls (by first | with_reducible assumption | omega) (by first | with_reducible assumption | omega) (by first | exact chG_s hg1 (hg2 k5 (Nat.le_refl _)) (Or.inl ⟨by assumption, rfl⟩) | exact unG_n hg1 (hg2 k5 (Nat.le_refl _)) (by first | with_reducible assumption | assumption)) (by first | exact fun j hj => (if_neg (by first | with_reducible assumption | omega)).trans (hg2 j (by first | with_reducible assumption | omega)) | exact fun j hj => hg2 j (by first | with_reducible assumption | omega)) hP hD hS (lv_sub hl [0, 1, 2, 3] rfl)
  exact hl_2 _ 0 GR s.heap [] ls (Nat.lt_succ_self _) (by first | with_reducible assumption | omega) (by intro j hj; omega) (fun j _ => rfl) hP hD hS (lv_sub hl [0, 1, 2, 3] rfl)
set_option maxHeartbeats 4000000 in
set_option maxRecDepth 100000 in
theorem k_Roads_gather (l : Launch) (dC : Nat → ClassId) (dI : Nat → Nat → Nat) (cI cZ cF : ClassId) (sz : Nat) (ro : Nat) (sh : Nat) (za : Nat) (zw : Nat) (zx : Nat) (zy : Nat) (zg : Nat) (nv : Int32) (fa : Nat) (ft : Nat) (FA : Nat → Option Nat) (RA : Nat → Option Nat) (WT : Nat → Int32) (EX : Nat → Int32) (EY : Nat → Int32) (GR : Nat → Int32) (L : List Nat) (f : Nat → va_E) (kd : Nat → Int32) (st : Nat → Int32) (tn : Nat → Int32) (mn : Nat → Int32) (cx : Nat → Int32) (cy : Nat → Int32) (rk : Nat → Int32) (wd : Nat → Int32) (tw : Nat → Int32) (pa : Nat → Int32) (pb : Nat → Int32) (gb : Nat → Int32) (it : Nat → Int32) (own : Nat → Nat) (fe : Nat → Nat) (cl : Nat → Nat) (nw : Nat → Nat) (md : Nat → Nat) (fm : Nat → Value) (h200 : ft ≤ 200) (hF : FeA cI L f own ft fe nw cl fm rk wd tw pa pb) (hN : NwA cI L f own ft nw cl md kd st gb it tn mn cx cy) (hAf : ∀ q, q < ft → FA q = some (fe q)) (hwf : ∀ q, lvF ft st tn q → wfM mn cx cy q) (hkn : okN ft st tn kd mn) (hrk : ∀ q, lvF ft st tn q → 0 ≤ (rk q).toInt ∧ (rk q).toInt ≤ 9) (hva : ∀ q, q < ft → vwA cI L f FA rk wd tw pa pb kd st gb it tn mn cx cy q) : zM l yX6_gather cX6_gather 5 none ({ frames := 2, cells := 0, slots := 0, locals := 43 } : Room) [.ref ro, .ref sh] (dC, dI) (zTy cI cZ cF) ([(oc5 ro (.ref za) (.ref zw) (.ref zx) (.ref zy) (.ref zg) nv), (oq za cF 200 RA), (oa zw cI 200 WT), (oa zx cI 400 EX), (oa zy cI 400 EY), (oa zg cI 400 GR), (oc7 sh (.ref fa) (nI ft)), (oq fa cF 200 FA)] ++ va_pl L f) sz none (fun A t => ∃ (n1 : Nat), ∃ (rd1 : Nat → Nat), ∃ (RA1 : Nat → Option Nat), ∃ (WT1 : Nat → Int32), ∃ (EX1 : Nat → Int32), ∃ (EY1 : Nat → Int32), ∃ (GR1 : Nat → Int32), (n1 ≤ ft) ∧ (rdS (rdF ft st tn kd) (chW rk mn cx cy) ft n1 rd1) ∧ (∀ k, k < n1 → RA1 k = some (fe (rd1 k))) ∧ (grI (fun j => (EX1 j, EY1 j)) GR1 (2 * n1)) ∧ (∀ k, k < n1 → (EX1 (2 * k), EY1 (2 * k)) = chB cx cy (rd1 k) ∧ (EX1 (2 * k + 1), EY1 (2 * k + 1)) = chL mn cx cy (rd1 k)) ∧ zPD (dC, dI) classes A ([(oc5 ro (.ref za) (.ref zw) (.ref zx) (.ref zy) (.ref zg) (nI n1)), (oq za cF 200 RA1), (oa zw cI 200 WT1), (oa zx cI 400 EX1), (oa zy cI 400 EY1), (oa zg cI 400 GR1), (oc7 sh (.ref fa) (nI ft)), (oq fa cF 200 FA)] ++ va_pl L f) t.heap) 0 0 := by
  refine zIn (own := "ScaleShop$Roads") (loc := [(0, .ref ro), (1, .ref sh)]) rfl rfl rfl rfl (fun p e s m below meth c hx hb hr hts hown hlocks hml hnm9 A hA hS hP hD hK hXN Q9 hQ9 ls hl => ?_)
  refine lv_aload_n hx hb dX6_gather_0 rfl (lv_at hl 0 rfl) ?_
  refine lv_iconst (v := 0) hx hb dX6_gather_1 rfl ?_
  refine va_put (D := (dC, dI)) (ci := 5) (v := .int 0) (ty := .int) (C := RX6) (T := TX6) (N := 6) hx hb hts inX6 tyX6 tyX6_ok nmX6 hown hK hP hD hS 0 rfl rfl 5 (by decide) (hts _ mw_251) (fun _ h9 => h9) rfl (by decide +kernel) rfl rfl (Nat.le_of_ble_eq_true rfl) dX6_gather_2 (fun H locs hP hD hS => ?_)
  obtain ⟨hP, hD⟩ := zre (W2 := ([(oc5 ro (.ref za) (.ref zw) (.ref zx) (.ref zy) (.ref zg) 0), _, _, _, _, _, _, _] ++ va_pl L f)) hP hD rfl
  refine lv_iconst (v := 0) hx hb dX6_gather_5 rfl ?_
  refine lv_istore_n (lv' := [(2, .int 0), (0, .ref ro), (1, .ref sh)]) hx hb dX6_gather_6 rfl hl (Nat.le_of_ble_eq_true rfl) rfl (fun ls hl => ?_)
  have hl_7 : ∀ (n9 : Nat) (g5 : Nat) (n5 : Nat) (rd5 : Nat → Nat) (RAk : Nat → Option Nat) (WTk : Nat → Int32) (H : Heap) (locs : List Loc) (ls : Array Slot), ft - g5 < n9 → (g5 ≤ ft ∧ n5 ≤ g5) → (rdS (rdF ft st tn kd) (chW rk mn cx cy) g5 n5 rd5) → (∀ k, k < n5 → RAk k = some (fe (rd5 k)) ∧ WTk k = nI (chW rk mn cx cy (rd5 k))) → va_P (dC, dI) classes ([(oc5 ro (.ref za) (.ref zw) (.ref zx) (.ref zy) (.ref zg) (nI n5)), (oq za cF 200 RAk), (oa zw cI 200 WTk), (oa zx cI 400 EX), (oa zy cI 400 EY), (oa zg cI 400 GR), (oc7 sh (.ref fa) (nI ft)), (oq fa cF 200 FA)] ++ va_pl L f) H → va_D A ([(oc5 ro (.ref za) (.ref zw) (.ref zx) (.ref zy) (.ref zg) (nI n5)), (oq za cF 200 RAk), (oa zw cI 200 WTk), (oa zx cI 400 EX), (oa zy cI 400 EY), (oa zg cI 400 GR), (oc7 sh (.ref fa) (nI ft)), (oq fa cF 200 FA)] ++ va_pl L f) → va_S A s.heap H locs → lv_has ls 5 [(2, .int (nI g5)), (0, .ref ro), (1, .ref sh)] → W p l e ({ frames := 2, cells := 0, slots := 0, locals := 43 } : Room) s m ([.ref ro, .ref sh] : List Value).toArray below meth c H locs 0 0 Q9 (F0 m 7 ls []) := by
    intro n9
    induction n9 with
    | zero => intro g5 n5 rd5 RAk WTk H locs ls hm; exact absurd hm (Nat.not_lt_zero _)
    | succ n9 ih_7 =>
      intro g5 n5 rd5 RAk WTk H locs ls hm hg5 hSr hAr hP hD hS hl
      refine lv_iload_n hx hb dX6_gather_7 rfl (lv_at hl 0 rfl) ?_
      refine lv_aload_n hx hb dX6_gather_8 rfl (lv_at hl 2 rfl) ?_
      refine va_get (D := (dC, dI)) (ci := 7) (v := .int (nI ft)) (C := RX8) (T := TX8) (N := 2) hx hb hts inX8 hown hK hP 6 rfl rfl 1 (Nat.le_of_ble_eq_true rfl) (hts _ mw_138) (fun _ h9 => h9) rfl dX6_gather_9 ?_
      have b9_2 : zlt (g5) := show g5 < 2147483648 by omega
      have b9_3 : zlt (ft) := show ft < 2147483648 by omega
      refine lv_icmp_ge (tgt := 71) hx hb dX6_gather_12 rfl (fun c_1 => ?_) (fun c_1 => ?_)
      · have c_1 : ((ft : Nat) : Int) ≤ ((g5 : Nat) : Int) := zc_le (nI_toInt b9_3) (nI_toInt b9_2) c_1
        have hgf : g5 = ft := (by omega)
        rw [hgf] at hSr
        refine lv_iconst (v := 0) hx hb dX6_gather_71 rfl ?_
        refine lv_istore_n (lv' := [(2, .int 0), (0, .ref ro), (1, .ref sh)]) hx hb dX6_gather_72 rfl hl (Nat.le_of_ble_eq_true rfl) rfl (fun ls hl => ?_)
        have hl_73 : ∀ (n9 : Nat) (i5 : Nat) (EXk : Nat → Int32) (EYk : Nat → Int32) (GRk : Nat → Int32) (H : Heap) (locs : List Loc) (ls : Array Slot), n5 - i5 < n9 → (i5 ≤ n5) → (grI (fun j => (EXk j, EYk j)) GRk (2 * i5)) → (∀ k, k < i5 → (EXk (2 * k), EYk (2 * k)) = chB cx cy (rd5 k) ∧ (EXk (2 * k + 1), EYk (2 * k + 1)) = chL mn cx cy (rd5 k)) → va_P (dC, dI) classes ([(oc5 ro (.ref za) (.ref zw) (.ref zx) (.ref zy) (.ref zg) (nI n5)), (oq za cF 200 RAk), (oa zw cI 200 WTk), (oa zx cI 400 EXk), (oa zy cI 400 EYk), (oa zg cI 400 GRk), (oc7 sh (.ref fa) (nI ft)), (oq fa cF 200 FA)] ++ va_pl L f) H → va_D A ([(oc5 ro (.ref za) (.ref zw) (.ref zx) (.ref zy) (.ref zg) (nI n5)), (oq za cF 200 RAk), (oa zw cI 200 WTk), (oa zx cI 400 EXk), (oa zy cI 400 EYk), (oa zg cI 400 GRk), (oc7 sh (.ref fa) (nI ft)), (oq fa cF 200 FA)] ++ va_pl L f) → va_S A s.heap H locs → lv_has ls 5 [(2, .int (nI i5)), (0, .ref ro), (1, .ref sh)] → W p l e ({ frames := 2, cells := 0, slots := 0, locals := 43 } : Room) s m ([.ref ro, .ref sh] : List Value).toArray below meth c H locs 0 0 Q9 (F0 m 73 ls []) := by
          intro n9
          induction n9 with
          | zero => intro i5 EXk EYk GRk H locs ls hm; exact absurd hm (Nat.not_lt_zero _)
          | succ n9 ih_73 =>
            intro i5 EXk EYk GRk H locs ls hm hi5 hgr hen hP hD hS hl
            refine lv_iload_n hx hb dX6_gather_73 rfl (lv_at hl 0 rfl) ?_
            refine lv_aload_n hx hb dX6_gather_74 rfl (lv_at hl 1 rfl) ?_
            refine va_get (D := (dC, dI)) (ci := 5) (v := .int (nI n5)) (C := RX6) (T := TX6) (N := 6) hx hb hts inX6 hown hK hP 0 rfl rfl 5 (Nat.le_of_ble_eq_true rfl) (hts _ mw_251) (fun _ h9 => h9) rfl dX6_gather_75 ?_
            have b9_5 : zlt (i5) := show i5 < 2147483648 by omega
            have b9_6 : zlt (n5) := show n5 < 2147483648 by omega
            refine lv_icmp_ge (tgt := 174) hx hb dX6_gather_78 rfl (fun c_4 => ?_) (fun c_4 => ?_)
            · have c_4 : ((n5 : Nat) : Int) ≤ ((i5 : Nat) : Int) := zc_le (nI_toInt b9_6) (nI_toInt b9_5) c_4
              have hie : i5 = n5 := (by omega)
              rw [hie] at hgr hen
              obtain ⟨hP9, hD9⟩ := zu_part (cx := [_, _, _, _, _, _, _, _]) hP hD [true, true, true, true, true, true, true, true] rfl rfl
              rw [hQ9]
              exact W.vret hx hb hr (fun t ht hW => ⟨⟨rfl, n5, rd5, RAk, WTk, EXk, EYk, GRk, (by omega), (hSr), (fun k hk => (hAr k hk).1), (hgr), (hen), by rw [ht]; exact hP9, hD9⟩, hS.F ht⟩) hS.2.2 dX6_gather_174
            · have c_4 : ((i5 : Nat) : Int) < ((n5 : Nat) : Int) := zc_nle (nI_toInt b9_6) (nI_toInt b9_5) c_4
              have hRi := (hSr.1 i5 (by omega)).1
              have hlt5 := (hSr.1 i5 (by omega)).2
              have hwi := hwf (rd5 i5) hRi.1
              have hni := hwi.2.1
              refine ex13 (sh_fc hF hN (Nat.le_refl _) hRi.1.1 hRi.1.2.2) (fun lo5 lx5 ly5 ln5 LX5 LY5 we5 r5 rx5 ry5 cap5 X5 Y5 hc5 => ?_)
              have hg1 : grM (md (rd5 i5)) (rd5 i5) ≠ 8 * (rd5 i5) + 1 := (by unfold grM; split <;> omega)
              have hb5 := hc5.2.2.1
              have hX5 := hc5.2.2.2.2.1
              have hkni := hkn (rd5 i5) hRi.1
              have hn2i : 2 ≤ nN (mn (rd5 i5)) := (by have h9 := hRi.2; omega)
              have hc9_1 : inPl L f [(oc1 (fe (rd5 i5)) (rk (rd5 i5)) (wd (rd5 i5)) (tw (rd5 i5)) (pa (rd5 i5)) (pb (rd5 i5)) (.ref lo5) (.ref (nw (rd5 i5))) (fm (rd5 i5))), (oc4 (nw (rd5 i5)) (kd (rd5 i5)) (st (rd5 i5)) (.ref r5) (gb (rd5 i5)) (it (rd5 i5)) (nI we5)), (oc6 r5 (.ref rx5) (.ref ry5) (nI (nN (mn (rd5 i5)))) (rgK (kd (rd5 i5)).toInt)), (oa rx5 cI cap5 X5), (oa ry5 cI cap5 Y5), (oc6 lo5 (.ref lx5) (.ref ly5) (nI ln5) 0), (oa lx5 cI (cl (rd5 i5)) LX5), (oa ly5 cI (cl (rd5 i5)) LY5)] := ⟨ce_pl hc5.1.1, ce_pl hc5.1.2.1, ce_pl hc5.1.2.2.1.1, ce_pl hc5.1.2.2.1.2.1, ce_pl hc5.1.2.2.1.2.2.1, ce_pl hc5.1.2.2.2.1, ce_pl hc5.1.2.2.2.2.1, ce_pl hc5.1.2.2.2.2.2.1, trivial⟩
              have hD0_1 := hD
              obtain ⟨T_1, hT_1, hP, hD⟩ := pl_oT hP hD hc9_1 (pw8 hc5 hg1)
              obtain ⟨hP, hD⟩ := zre (W2 := ([_, _, _, _, _, _, _, _, _, _, _, _, _, _, _, _] ++ va_pl T_1 f)) hP hD rfl
              refine lv_aload_n hx hb dX6_gather_81 rfl (lv_at hl 1 rfl) ?_
              refine va_get (D := (dC, dI)) (ci := 5) (v := .ref za) (C := RX6) (T := TX6) (N := 6) hx hb hts inX6 hown hK hP 0 rfl rfl 0 (Nat.le_of_ble_eq_true rfl) (hts _ mw_246) (fun _ h9 => h9) rfl dX6_gather_82 ?_
              refine lv_iload_n hx hb dX6_gather_85 rfl (lv_at hl 0 rfl) ?_
              have b9_7 : i5 < 200 := by omega
              refine z_aald hx hb hK hP 1 2 rfl rfl (e := i5) rfl b9_7 (Nat.le_of_ble_eq_true rfl) (v := .ref (fe (rd5 i5))) (by rw [(hAr i5 (by omega)).1]; rfl) dX6_gather_86 ?_
              refine lv_ifnonnull (tgt := 94) hx hb dX6_gather_87 rfl ?_
              refine lv_aload_n hx hb dX6_gather_94 rfl (lv_at hl 1 rfl) ?_
              refine va_get (D := (dC, dI)) (ci := 5) (v := .ref za) (C := RX6) (T := TX6) (N := 6) hx hb hts inX6 hown hK hP 0 rfl rfl 0 (Nat.le_of_ble_eq_true rfl) (hts _ mw_246) (fun _ h9 => h9) rfl dX6_gather_95 ?_
              refine lv_iload_n hx hb dX6_gather_98 rfl (lv_at hl 0 rfl) ?_
              refine z_aald hx hb hK hP 1 2 rfl rfl (e := i5) rfl b9_7 (Nat.le_of_ble_eq_true rfl) (v := .ref (fe (rd5 i5))) (by rw [(hAr i5 (by omega)).1]; rfl) dX6_gather_99 ?_
              refine va_get (D := (dC, dI)) (ci := 1) (v := .ref (nw (rd5 i5))) (C := RX2) (T := TX2) (N := 8) hx hb hts inX2 hown hK hP 8 rfl rfl 6 (Nat.le_of_ble_eq_true rfl) (hts _ mw_432) (fun _ h9 => h9) rfl dX6_gather_100 ?_
              refine va_get (D := (dC, dI)) (ci := 4) (v := .ref r5) (C := RX5) (T := TX5) (N := 6) hx hb hts inX5 hown hK hP 9 rfl rfl 2 (Nat.le_of_ble_eq_true rfl) (hts _ mw_390) (fun _ h9 => h9) rfl dX6_gather_103 ?_
              refine lv_astore_n (lv' := [(3, .ref r5), (2, .int (nI i5)), (0, .ref ro), (1, .ref sh)]) hx hb dX6_gather_106 rfl hl (Nat.le_of_ble_eq_true rfl) rfl (fun ls hl => ?_)
              refine lv_aload_n hx hb dX6_gather_107 rfl (lv_at hl 0 rfl) ?_
              refine lv_ifnull hx hb dX6_gather_108 ?_
              refine lv_aload_n hx hb dX6_gather_111 rfl (lv_at hl 0 rfl) ?_
              refine va_get (D := (dC, dI)) (ci := 6) (v := .int (nI (nN (mn (rd5 i5))))) (C := RX7) (T := TX7) (N := 4) hx hb hts inX7 hown hK hP 10 rfl rfl 2 (Nat.le_of_ble_eq_true rfl) (hts _ mw_177) (fun _ h9 => h9) rfl dX6_gather_112 ?_
              have b9_9 : zlt ((nN (mn (rd5 i5)))) := show (nN (mn (rd5 i5))) < 2147483648 by omega
              refine lv_if_le (tgt := 168) hx hb dX6_gather_115 rfl (fun c_8 => ?_) (fun c_8 => ?_)
              · have c_8 : ((nN (mn (rd5 i5)) : Nat) : Int) ≤ 0 := zc_le (nI_toInt b9_9) rfl c_8
                exfalso; omega
              · have c_8 : 0 < ((nN (mn (rd5 i5)) : Nat) : Int) := zc_nle (nI_toInt b9_9) rfl c_8
                refine lv_aload_n hx hb dX6_gather_118 rfl (lv_at hl 2 rfl) ?_
                refine lv_iconst (v := 2) hx hb dX6_gather_119 rfl ?_
                refine lv_iload_n hx hb dX6_gather_120 rfl (lv_at hl 1 rfl) ?_
                refine lv_imul hx hb dX6_gather_121 ?_
                refine zz_i (v := nI (2 * i5)) (pk_mul 2 i5) ?_
                refine lv_aload_n hx hb dX6_gather_122 rfl (lv_at hl 0 rfl) ?_
                refine va_get (D := (dC, dI)) (ci := 6) (v := .ref rx5) (C := RX7) (T := TX7) (N := 4) hx hb hts inX7 hown hK hP 10 rfl rfl 0 (Nat.le_of_ble_eq_true rfl) (hts _ mw_162) (fun _ h9 => h9) rfl dX6_gather_123 ?_
                refine lv_iconst (v := 0) hx hb dX6_gather_126 rfl ?_
                have b9_10 : 0 < cap5 := by omega
                have b9_11 : zlt (cap5) := show cap5 < 2147483648 by omega
                refine z_iald hx hb hK hP 11 0 rfl rfl (e := 0) rfl b9_10 b9_11 dX6_gather_127 ?_
                refine lv_aload_n hx hb dX6_gather_128 rfl (lv_at hl 0 rfl) ?_
                refine va_get (D := (dC, dI)) (ci := 6) (v := .ref ry5) (C := RX7) (T := TX7) (N := 4) hx hb hts inX7 hown hK hP 10 rfl rfl 1 (Nat.le_of_ble_eq_true rfl) (hts _ mw_169) (fun _ h9 => h9) rfl dX6_gather_129 ?_
                refine lv_iconst (v := 0) hx hb dX6_gather_132 rfl ?_
                refine z_iald hx hb hK hP 12 0 rfl rfl (e := 0) rfl b9_10 b9_11 dX6_gather_133 ?_
                obtain ⟨hPc, hDc, hFc⟩ := zo_sub (wc := [_, _, _, _]) hP hD hS hA [0, 3, 4, 5] (by decide +kernel) rfl
                refine zcall (st1 := []) (va_runV (As := [.int (nI (2 * i5)), .int (X5 0), .int (Y5 0)]) (rest := []) ⟨hx, hb, hml, hown, hts⟩ (k_Roads_setEnd l dC dI cI cZ cF H.size ro za zw zx zy zg (2 * i5) (nI n5) (X5 0) (Y5 0) EXk EYk GRk (by first | with_reducible assumption | omega)) (csV_134 hts rfl rfl ⟨Nat.le_of_ble_eq_true rfl, Nat.le_of_ble_eq_true rfl⟩) (zPV2 (q0 := 0) (ci := 5) hPc hDc hK hXN rfl rfl) rfl rfl hl.1 rfl (lv_room (Nat.le_of_ble_eq_true rfl)) dX6_gather_134 ⟨Nat.le_of_ble_eq_true rfl, Nat.le_of_ble_eq_true rfl⟩) hS hFc hFc rfl (fun t H locs ht hB hk1 hS => ?_)
                obtain ⟨ka, GRa, hea1, hea2, hea3, hP1, hD1⟩ := hB
                rw [ht] at hP1
                obtain ⟨hP, hD⟩ := znQ (W2 := [_, _, _, (oa zx cI 400 (upd EXk (2 * i5) (X5 0))), (oa zy cI 400 (upd EYk (2 * i5) (Y5 0))), (oa zg cI 400 GRa), _, _, _, _, _, _, _, _, _, _]) hP hD hk1 hFc hP1 hD1 [0, 3, 4, 5] zl_108 zl_108 [0, 3, 4, 5] (by decide +kernel) rfl rfl rfl rfl rfl
                clear hk1 hPc hDc hFc hP1 hD1 ht
                refine lv_aload_n hx hb dX6_gather_137 rfl (lv_at hl 2 rfl) ?_
                refine lv_iconst (v := 2) hx hb dX6_gather_138 rfl ?_
                refine lv_iload_n hx hb dX6_gather_139 rfl (lv_at hl 1 rfl) ?_
                refine lv_imul hx hb dX6_gather_140 ?_
                refine zz_i (v := nI (2 * i5)) (pk_mul 2 i5) ?_
                refine lv_iconst (v := 1) hx hb dX6_gather_141 rfl ?_
                refine lv_iadd hx hb dX6_gather_142 ?_
                refine zz_i (v := nI (2 * i5 + 1)) (nI_add (2 * i5) 1) ?_
                refine lv_aload_n hx hb dX6_gather_143 rfl (lv_at hl 0 rfl) ?_
                refine va_get (D := (dC, dI)) (ci := 6) (v := .ref rx5) (C := RX7) (T := TX7) (N := 4) hx hb hts inX7 hown hK hP 10 rfl rfl 0 (Nat.le_of_ble_eq_true rfl) (hts _ mw_162) (fun _ h9 => h9) rfl dX6_gather_144 ?_
                refine lv_aload_n hx hb dX6_gather_147 rfl (lv_at hl 0 rfl) ?_
                refine va_get (D := (dC, dI)) (ci := 6) (v := .int (nI (nN (mn (rd5 i5))))) (C := RX7) (T := TX7) (N := 4) hx hb hts inX7 hown hK hP 10 rfl rfl 2 (Nat.le_of_ble_eq_true rfl) (hts _ mw_177) (fun _ h9 => h9) rfl dX6_gather_148 ?_
                refine lv_iconst (v := 1) hx hb dX6_gather_151 rfl ?_
                refine lv_isub hx hb dX6_gather_152 ?_
                refine zz_i (v := nI ((nN (mn (rd5 i5))) - 1)) (pk_sub (a := nN (mn (rd5 i5))) (b := 1) (by omega)) ?_
                have b9_12 : (nN (mn (rd5 i5))) - 1 < cap5 := by omega
                refine z_iald hx hb hK hP 11 0 rfl rfl (e := (nN (mn (rd5 i5))) - 1) rfl b9_12 b9_11 dX6_gather_153 ?_
                refine lv_aload_n hx hb dX6_gather_154 rfl (lv_at hl 0 rfl) ?_
                refine va_get (D := (dC, dI)) (ci := 6) (v := .ref ry5) (C := RX7) (T := TX7) (N := 4) hx hb hts inX7 hown hK hP 10 rfl rfl 1 (Nat.le_of_ble_eq_true rfl) (hts _ mw_169) (fun _ h9 => h9) rfl dX6_gather_155 ?_
                refine lv_aload_n hx hb dX6_gather_158 rfl (lv_at hl 0 rfl) ?_
                refine va_get (D := (dC, dI)) (ci := 6) (v := .int (nI (nN (mn (rd5 i5))))) (C := RX7) (T := TX7) (N := 4) hx hb hts inX7 hown hK hP 10 rfl rfl 2 (Nat.le_of_ble_eq_true rfl) (hts _ mw_177) (fun _ h9 => h9) rfl dX6_gather_159 ?_
                refine lv_iconst (v := 1) hx hb dX6_gather_162 rfl ?_
                refine lv_isub hx hb dX6_gather_163 ?_
                refine zz_i (v := nI ((nN (mn (rd5 i5))) - 1)) (pk_sub (a := nN (mn (rd5 i5))) (b := 1) (by omega)) ?_
                refine z_iald hx hb hK hP 12 0 rfl rfl (e := (nN (mn (rd5 i5))) - 1) rfl b9_12 b9_11 dX6_gather_164 ?_
                obtain ⟨hPc, hDc, hFc⟩ := zo_sub (wc := [_, _, _, _]) hP hD hS hA [0, 3, 4, 5] (by decide +kernel) rfl
                refine zcall (st1 := []) (va_runV (As := [.int (nI (2 * i5 + 1)), .int (X5 ((nN (mn (rd5 i5))) - 1)), .int (Y5 ((nN (mn (rd5 i5))) - 1))]) (rest := []) ⟨hx, hb, hml, hown, hts⟩ (k_Roads_setEnd l dC dI cI cZ cF H.size ro za zw zx zy zg (2 * i5 + 1) (nI n5) (X5 ((nN (mn (rd5 i5))) - 1)) (Y5 ((nN (mn (rd5 i5))) - 1)) (upd EXk (2 * i5) (X5 0)) (upd EYk (2 * i5) (Y5 0)) GRa (by first | with_reducible assumption | omega)) (csV_134 hts rfl rfl ⟨Nat.le_of_ble_eq_true rfl, Nat.le_of_ble_eq_true rfl⟩) (zPV2 (q0 := 0) (ci := 5) hPc hDc hK hXN rfl rfl) rfl rfl hl.1 rfl (lv_room (Nat.le_of_ble_eq_true rfl)) dX6_gather_165 ⟨Nat.le_of_ble_eq_true rfl, Nat.le_of_ble_eq_true rfl⟩) hS hFc hFc rfl (fun t H locs ht hB hk1 hS => ?_)
                obtain ⟨kb, GRb, heb1, heb2, heb3, hP1, hD1⟩ := hB
                rw [ht] at hP1
                obtain ⟨hP, hD⟩ := znQ (W2 := [_, _, _, (oa zx cI 400 (upd (upd EXk (2 * i5) (X5 0)) (2 * i5 + 1) (X5 ((nN (mn (rd5 i5))) - 1)))), (oa zy cI 400 (upd (upd EYk (2 * i5) (Y5 0)) (2 * i5 + 1) (Y5 ((nN (mn (rd5 i5))) - 1)))), (oa zg cI 400 GRb), _, _, _, _, _, _, _, _, _, _]) hP hD hk1 hFc hP1 hD1 [0, 3, 4, 5] zl_108 zl_108 [0, 3, 4, 5] (by decide +kernel) rfl rfl rfl rfl rfl
                clear hk1 hPc hDc hFc hP1 hD1 ht
                obtain ⟨hP, hD⟩ := pl_bk (X := [_, _, _, _, _, _, _, _]) hT_1 hP rfl hc9_1 hD0_1 rfl
                have hgr7 : grI (fun j => ((upd (upd EXk (2 * i5) (X5 0)) (2 * i5 + 1) (X5 (nN (mn (rd5 i5)) - 1))) j, (upd (upd EYk (2 * i5) (Y5 0)) (2 * i5 + 1) (Y5 (nN (mn (rd5 i5)) - 1))) j)) GRb (2 * i5 + 1 + 1) := by obtain ⟨ha1, ha2⟩ := hea1; subst ha2; obtain ⟨hb1, hb2⟩ := heb1; subst hb2; exact grI_s (grI_s hgr ha1 hea2 hea3) hb1 heb2 heb3
                have hen7 : ∀ k, k < i5 + 1 → ((upd (upd EXk (2 * i5) (X5 0)) (2 * i5 + 1) (X5 (nN (mn (rd5 i5)) - 1))) (2 * k), (upd (upd EYk (2 * i5) (Y5 0)) (2 * i5 + 1) (Y5 (nN (mn (rd5 i5)) - 1))) (2 * k)) = chB cx cy (rd5 k) ∧ ((upd (upd EXk (2 * i5) (X5 0)) (2 * i5 + 1) (X5 (nN (mn (rd5 i5)) - 1))) (2 * k + 1), (upd (upd EYk (2 * i5) (Y5 0)) (2 * i5 + 1) (Y5 (nN (mn (rd5 i5)) - 1))) (2 * k + 1)) = chL mn cx cy (rd5 k) := fun k hk => by rcases Nat.lt_or_ge k i5 with h9 | h9; (have h8 := hen k h9; rw [upo9 (by omega), upo9 (by omega), upo9 (by omega), upo9 (by omega), upo9 (by omega), upo9 (by omega), upo9 (by omega), upo9 (by omega)]; exact h8); (rw [show k = i5 by omega, up_at, up_at, upo9 (by omega), up_at, upo9 (by omega), up_at, (hX5 0 (by omega)).1, (hX5 0 (by omega)).2, (hX5 _ (show nN (mn (rd5 i5)) - 1 < nN (mn (rd5 i5)) by omega)).1, (hX5 _ (show nN (mn (rd5 i5)) - 1 < nN (mn (rd5 i5)) by omega)).2]; exact ⟨rfl, chL_e (by omega)⟩)
                refine lv_iinc (v := nI (i5 + 1)) (lv' := [(2, .int (nI (i5 + 1))), (3, .ref r5), (0, .ref ro), (1, .ref sh)]) hx hb dX6_gather_168 hl (k := 1) rfl (nI_add i5 1) (Nat.le_of_ble_eq_true rfl) rfl (fun ls hl => ?_)
                refine lv_goto (tgt := 73) hx hb dX6_gather_171 rfl ?_
                exact ih_73 (i5 + 1) (upd (upd EXk (2 * i5) (X5 0)) (2 * i5 + 1) (X5 ((nN (mn (rd5 i5))) - 1))) (upd (upd EYk (2 * i5) (Y5 0)) (2 * i5 + 1) (Y5 ((nN (mn (rd5 i5))) - 1))) GRb H locs ls (by first | with_reducible assumption | omega) (by first | with_reducible assumption | omega) (by rw [show 2 * (i5 + 1) = 2 * i5 + 1 + 1 by omega]; exact hgr7) (hen7) hP hD hS (lv_sub hl [0, 2, 3] rfl)
        exact hl_73 _ 0 EX EY GR H locs ls (Nat.lt_succ_self _) (by first | with_reducible assumption | omega) (by intro j hj; omega) (by intro k hk; omega) hP hD hS (lv_sub hl [0, 1, 2] rfl)
      · have c_1 : ((g5 : Nat) : Int) < ((ft : Nat) : Int) := zc_nle (nI_toInt b9_3) (nI_toInt b9_2) c_1
        rcases vwA_3 (P9 := ((st g5).toInt = 1)) (hva g5 (by omega)) with ⟨ht2, fe2, lk2, lo2, we2, fm2, hFA2, hfe2, hlk2⟩ | ⟨ht2, hA2, fe2, lk2, lo2, we2, fm2, r2, rx2, ry2, cap2, U2, V2, rg2, hFA2, hfe2, hlk2, ⟨hr2, hrx2, hry2, hne2⟩, hrr2⟩ | ⟨ht2, hA2, fe2, lk2, lo2, we2, fm2, r2, rx2, ry2, cap2, U2, V2, rg2, hFA2, hfe2, hlk2, ⟨hr2, hrx2, hry2, hne2⟩, hrr2⟩
        · skip
          have hnR : ¬ (rdF ft st tn kd) g5 := fun h => ht2 h.1.2.2
          have hc9_1 : inPl L f [(oc1 fe2 (rk g5) (wd g5) (tw g5) (pa g5) (pb g5) (.ref lo2) (.ref lk2) fm2), (oc4 lk2 (kd g5) (st g5) .null (gb g5) (it g5) we2)] := ⟨hfe2, hlk2, trivial⟩
          have hD0_1 := hD
          obtain ⟨T_1, hT_1, hP, hD⟩ := pl_oT hP hD hc9_1 (pwF hfe2.2 hlk2.2)
          obtain ⟨hP, hD⟩ := zre (W2 := ([_, _, _, _, _, _, _, _, _, _] ++ va_pl T_1 f)) hP hD rfl
          refine lv_aload_n hx hb dX6_gather_15 rfl (lv_at hl 2 rfl) ?_
          refine lv_iload_n hx hb dX6_gather_16 rfl (lv_at hl 0 rfl) ?_
          obtain ⟨hPc, hDc, hFc, hI1⟩ := zi_sub (wc := [_, _]) hP hD hS hA [6, 7] rfl rfl
          refine zcall (st1 := [.ref fe2]) (va_runV (As := [.int (nI g5)]) (rest := []) ⟨hx, hb, hml, hown, hts⟩ (k_Sheet_find l dC dI cI cZ cF H.size sh fa ft FA g5 fe2 (by first | with_reducible assumption | omega) (by first | with_reducible assumption | omega) (hFA2)) (csV_135 hts rfl rfl ⟨Nat.le_of_ble_eq_true rfl, Nat.le_of_ble_eq_true rfl⟩) (zPV2 (q0 := 0) (ci := 7) hPc hDc hK hXN rfl rfl) rfl rfl hl.1 rfl (lv_room (Nat.le_of_ble_eq_true rfl)) dX6_gather_17 ⟨Nat.le_of_ble_eq_true rfl, Nat.le_of_ble_eq_true rfl⟩) hS hFc hFc rfl (fun t H locs ht hB hk1 hS => ?_)
          obtain ⟨hP1, hD1⟩ := hB
          rw [ht] at hP1
          replace hP := z0 hP hD hk1 hP1 hI1
          clear hk1 hPc hDc hFc hP1 hD1 ht hI1
          refine lv_astore_n (lv' := [(3, .ref fe2), (2, .int (nI g5)), (0, .ref ro), (1, .ref sh)]) hx hb dX6_gather_20 rfl hl (Nat.le_of_ble_eq_true rfl) rfl (fun ls hl => ?_)
          refine lv_aload_n hx hb dX6_gather_21 rfl (lv_at hl 3 rfl) ?_
          refine lv_iload_n hx hb dX6_gather_22 rfl (lv_at hl 1 rfl) ?_
          obtain ⟨hPc, hDc, hFc, hI1⟩ := zi_sub (wc := [_, _, _, _]) hP hD hS hA [6, 7, 8, 9] (by decide +kernel) rfl
          refine zcall (st1 := [.null]) (va_runV (As := [.int (nI g5)]) (rest := []) ⟨hx, hb, hml, hown, hts⟩ (k_Sheet_rowThere_tv l dC dI cI cZ cF H.size sh fa ft FA g5 fe2 lo2 (rk g5) (wd g5) (tw g5) (pa g5) (pb g5) lk2 (kd g5) (st g5) (gb g5) (it g5) we2 fm2 (by first | with_reducible assumption | omega) (by first | with_reducible assumption | omega) (hFA2)) (csV_136 hts rfl rfl ⟨Nat.le_of_ble_eq_true rfl, Nat.le_of_ble_eq_true rfl⟩) (zPV2 (q0 := 0) (ci := 7) hPc hDc hK hXN rfl rfl) rfl rfl hl.1 rfl (lv_room (Nat.le_of_ble_eq_true rfl)) dX6_gather_23 ⟨Nat.le_of_ble_eq_true rfl, Nat.le_of_ble_eq_true rfl⟩) hS hFc hFc rfl (fun t H locs ht hB hk1 hS => ?_)
          obtain ⟨hP1, hD1⟩ := hB
          rw [ht] at hP1
          replace hP := z0 hP hD hk1 hP1 hI1
          clear hk1 hPc hDc hFc hP1 hD1 ht hI1
          refine lv_astoreN (lv' := [(4, .null), (3, .ref fe2), (2, .int (nI g5)), (0, .ref ro), (1, .ref sh)]) hx hb dX6_gather_26 hl (Nat.le_of_ble_eq_true rfl) rfl (fun ls hl => ?_)
          refine lv_aload_n hx hb dX6_gather_28 rfl (lv_at hl 1 rfl) ?_
          refine lv_ifnull hx hb dX6_gather_29 ?_
          refine lv_aloadN hx hb dX6_gather_32 (lv_at hl 0 rfl) ?_
          refine lv_ifnullN (tgt := 65) hx hb dX6_gather_34 rfl ?_
          obtain ⟨hP, hD⟩ := pl_bk (X := [_, _, _, _, _, _, _, _]) hT_1 hP rfl hc9_1 hD0_1 rfl
          have hS7 := rdS_skip hSr hnR
          refine lv_iinc (v := nI (g5 + 1)) (lv' := [(2, .int (nI (g5 + 1))), (4, .null), (3, .ref fe2), (0, .ref ro), (1, .ref sh)]) hx hb dX6_gather_65 hl (k := 2) rfl (nI_add g5 1) (Nat.le_of_ble_eq_true rfl) rfl (fun ls hl => ?_)
          refine lv_goto (tgt := 7) hx hb dX6_gather_68 rfl ?_
          exact ih_7 (g5 + 1) n5 rd5 RAk WTk H locs ls (by first | with_reducible assumption | omega) (by first | with_reducible assumption | omega) (hS7) (by first | exact hA7 | exact hAr) hP hD hS (lv_sub hl [0, 3, 4] rfl)
        · skip
          have hcap2 := hrr2.1
          have hcap3 := hrr2.2.1
          have hlv2 : lvF ft st tn g5 := ⟨by omega, hA2, ht2⟩
          have hw2 := hwf g5 hlv2
          have hq2 := rw_pls hrr2 hw2
          have hn2 := hw2.2.1
          have hrk2 := hrk g5 hlv2
          have hwb2 := chW_b hrk2 hw2
          have hfe9 : fe2 = fe g5 := Option.some.inj (hFA2.symm.trans (hAf g5 (by omega)))
          have hc9_1 : inPl L f [(oc1 fe2 (rk g5) (wd g5) (tw g5) (pa g5) (pb g5) (.ref lo2) (.ref lk2) fm2), (oc4 lk2 (kd g5) (st g5) (.ref r2) (gb g5) (it g5) we2), (oc6 r2 (.ref rx2) (.ref ry2) (nI (nN (mn g5))) rg2), (oa rx2 cI cap2 U2), (oa ry2 cI cap2 V2)] := ⟨hfe2, hlk2, hr2, hrx2, hry2, trivial⟩
          have hD0_1 := hD
          obtain ⟨T_1, hT_1, hP, hD⟩ := pl_oT hP hD hc9_1 (pwR hfe2.2 hlk2.2 hr2.2 hrx2.2 hry2.2 hne2)
          obtain ⟨hP, hD⟩ := zre (W2 := ([_, _, _, _, _, _, _, _, _, _, _, _, _] ++ va_pl T_1 f)) hP hD rfl
          refine lv_aload_n hx hb dX6_gather_15 rfl (lv_at hl 2 rfl) ?_
          refine lv_iload_n hx hb dX6_gather_16 rfl (lv_at hl 0 rfl) ?_
          obtain ⟨hPc, hDc, hFc, hI1⟩ := zi_sub (wc := [_, _]) hP hD hS hA [6, 7] rfl rfl
          refine zcall (st1 := [.ref fe2]) (va_runV (As := [.int (nI g5)]) (rest := []) ⟨hx, hb, hml, hown, hts⟩ (k_Sheet_find l dC dI cI cZ cF H.size sh fa ft FA g5 fe2 (by first | with_reducible assumption | omega) (by first | with_reducible assumption | omega) (hFA2)) (csV_135 hts rfl rfl ⟨Nat.le_of_ble_eq_true rfl, Nat.le_of_ble_eq_true rfl⟩) (zPV2 (q0 := 0) (ci := 7) hPc hDc hK hXN rfl rfl) rfl rfl hl.1 rfl (lv_room (Nat.le_of_ble_eq_true rfl)) dX6_gather_17 ⟨Nat.le_of_ble_eq_true rfl, Nat.le_of_ble_eq_true rfl⟩) hS hFc hFc rfl (fun t H locs ht hB hk1 hS => ?_)
          obtain ⟨hP1, hD1⟩ := hB
          rw [ht] at hP1
          replace hP := z0 hP hD hk1 hP1 hI1
          clear hk1 hPc hDc hFc hP1 hD1 ht hI1
          refine lv_astore_n (lv' := [(3, .ref fe2), (2, .int (nI g5)), (0, .ref ro), (1, .ref sh)]) hx hb dX6_gather_20 rfl hl (Nat.le_of_ble_eq_true rfl) rfl (fun ls hl => ?_)
          refine lv_aload_n hx hb dX6_gather_21 rfl (lv_at hl 3 rfl) ?_
          refine lv_iload_n hx hb dX6_gather_22 rfl (lv_at hl 1 rfl) ?_
          obtain ⟨hPc, hDc, hFc, hI1⟩ := zi_sub (wc := [_, _, _, _]) hP hD hS hA [6, 7, 8, 9] (by decide +kernel) rfl
          refine zcall (st1 := [.ref r2]) (va_runV (As := [.int (nI g5)]) (rest := []) ⟨hx, hb, hml, hown, hts⟩ (k_Sheet_rowThere_yv l dC dI cI cZ cF H.size sh fa ft FA g5 fe2 lo2 (rk g5) (wd g5) (tw g5) (pa g5) (pb g5) lk2 (kd g5) (st g5) (gb g5) (it g5) we2 r2 fm2 (by first | with_reducible assumption | omega) (by first | with_reducible assumption | omega) (hFA2) (by first | exact hA2 | omega)) (csV_136 hts rfl rfl ⟨Nat.le_of_ble_eq_true rfl, Nat.le_of_ble_eq_true rfl⟩) (zPV2 (q0 := 0) (ci := 7) hPc hDc hK hXN rfl rfl) rfl rfl hl.1 rfl (lv_room (Nat.le_of_ble_eq_true rfl)) dX6_gather_23 ⟨Nat.le_of_ble_eq_true rfl, Nat.le_of_ble_eq_true rfl⟩) hS hFc hFc rfl (fun t H locs ht hB hk1 hS => ?_)
          obtain ⟨hP1, hD1⟩ := hB
          rw [ht] at hP1
          replace hP := z0 hP hD hk1 hP1 hI1
          clear hk1 hPc hDc hFc hP1 hD1 ht hI1
          refine lv_astore (lv' := [(4, .ref r2), (3, .ref fe2), (2, .int (nI g5)), (0, .ref ro), (1, .ref sh)]) hx hb dX6_gather_26 hl (Nat.le_of_ble_eq_true rfl) rfl (fun ls hl => ?_)
          refine lv_aload_n hx hb dX6_gather_28 rfl (lv_at hl 1 rfl) ?_
          refine lv_ifnull hx hb dX6_gather_29 ?_
          refine lv_aload hx hb dX6_gather_32 (lv_at hl 0 rfl) ?_
          refine lv_ifnull hx hb dX6_gather_34 ?_
          refine lv_aload_n hx hb dX6_gather_37 rfl (lv_at hl 1 rfl) ?_
          refine va_get (D := (dC, dI)) (ci := 1) (v := .ref lk2) (C := RX2) (T := TX2) (N := 8) hx hb hts inX2 hown hK hP 8 rfl rfl 6 (Nat.le_of_ble_eq_true rfl) (hts _ mw_432) (fun _ h9 => h9) rfl dX6_gather_38 ?_
          refine va_get (D := (dC, dI)) (ci := 4) (v := .int (kd g5)) (C := RX5) (T := TX5) (N := 6) hx hb hts inX5 hown hK hP 9 rfl rfl 0 (Nat.le_of_ble_eq_true rfl) (hts _ mw_380) (fun _ h9 => h9) rfl dX6_gather_41 ?_
          refine lv_iconst (v := 3) hx hb dX6_gather_44 rfl ?_
          refine lv_icmp_ne (tgt := 65) hx hb dX6_gather_45 rfl (fun c_13 => ?_) (fun c_13 => ?_)
          · have c_13 : ¬ (kd g5).toInt = 3 := zc_ne rfl rfl c_13
            obtain ⟨hP, hD⟩ := pl_bk (X := [_, _, _, _, _, _, _, _]) hT_1 hP rfl hc9_1 hD0_1 rfl
            have hnR : ¬ (rdF ft st tn kd) g5 := fun h => by have h9 := h.2; omega
            have hS7 := rdS_skip hSr hnR
            refine lv_iinc (v := nI (g5 + 1)) (lv' := [(2, .int (nI (g5 + 1))), (4, .ref r2), (3, .ref fe2), (0, .ref ro), (1, .ref sh)]) hx hb dX6_gather_65 hl (k := 2) rfl (nI_add g5 1) (Nat.le_of_ble_eq_true rfl) rfl (fun ls hl => ?_)
            refine lv_goto (tgt := 7) hx hb dX6_gather_68 rfl ?_
            exact ih_7 (g5 + 1) n5 rd5 RAk WTk H locs ls (by first | with_reducible assumption | omega) (by first | with_reducible assumption | omega) (hS7) (by first | exact hA7 | exact hAr) hP hD hS (lv_sub hl [0, 3, 4] rfl)
          · have c_13 : (kd g5).toInt = 3 := zc_eq rfl rfl c_13
            refine lv_aload_n hx hb dX6_gather_48 rfl (lv_at hl 3 rfl) ?_
            refine lv_aload_n hx hb dX6_gather_49 rfl (lv_at hl 1 rfl) ?_
            refine lv_aload_n hx hb dX6_gather_50 rfl (lv_at hl 1 rfl) ?_
            refine va_get (D := (dC, dI)) (ci := 1) (v := .int (rk g5)) (C := RX2) (T := TX2) (N := 8) hx hb hts inX2 hown hK hP 8 rfl rfl 0 (Nat.le_of_ble_eq_true rfl) (hts _ mw_416) (fun _ h9 => h9) rfl dX6_gather_51 ?_
            refine lv_iconst (v := 1) hx hb dX6_gather_54 rfl ?_
            refine lv_iadd hx hb dX6_gather_55 ?_
            refine lv_aload hx hb dX6_gather_56 (lv_at hl 0 rfl) ?_
            obtain ⟨hPc, hDc, hFc, hI1⟩ := zi_sub (wc := [_, _, _]) hP hD hS hA [10, 11, 12] rfl rfl
            refine zcall (st1 := [.int (nI (ln2 U2 V2 ((nN (mn g5)) - 1))), .int ((rk g5) + 1), .ref fe2, .ref ro]) (va_runV (As := []) (rest := [.int ((rk g5) + 1), .ref fe2, .ref ro]) ⟨hx, hb, hml, hown, hts⟩ (k_Row_length l dC dI cI cZ cF H.size r2 rx2 ry2 (nN (mn g5)) cap2 U2 V2 rg2 (by first | with_reducible assumption | omega) (by first | with_reducible assumption | omega) (hq2) (by first | with_reducible assumption | omega)) (csV_137 hts rfl rfl ⟨Nat.le_of_ble_eq_true rfl, Nat.le_of_ble_eq_true rfl⟩) (zPV2 (q0 := 0) (ci := 6) hPc hDc hK hXN rfl rfl) rfl rfl hl.1 rfl (lv_room (Nat.le_of_ble_eq_true rfl)) dX6_gather_58 ⟨Nat.le_of_ble_eq_true rfl, Nat.le_of_ble_eq_true rfl⟩) hS hFc hFc rfl (fun t H locs ht hB hk1 hS => ?_)
            obtain ⟨hP1, hD1⟩ := hB
            rw [ht] at hP1
            replace hP := z0 hP hD hk1 hP1 hI1
            clear hk1 hPc hDc hFc hP1 hD1 ht hI1
            refine lv_imul hx hb dX6_gather_61 ?_
            refine zz_i (v := nI (chW rk mn cx cy g5)) (by rw [ln2_cg hrr2.2.2.2.2 _ (by omega)]; exact chW_i hrk2) ?_
            obtain ⟨hP, hD⟩ := pl_bk (X := [_, _, _, _, _, _, _, _]) hT_1 hP rfl hc9_1 hD0_1 rfl
            have hR2 : (rdF ft st tn kd) g5 := ⟨hlv2, by omega⟩
            obtain ⟨hPc, hDc, hFc⟩ := zo_part (cx := [_, _, _]) hP hD hS hA [0, 1, 2] rfl rfl
            refine zcall (st1 := []) (va_runV (As := [.ref fe2, .int (nI (chW rk mn cx cy g5))]) (rest := []) ⟨hx, hb, hml, hown, hts⟩ (k_Roads_insert l dC dI cI cZ cF H.size ro za zw zx zy zg n5 fe2 (chW rk mn cx cy g5) RAk WTk (fun k => chW rk mn cx cy (rd5 k)) L f (by first | with_reducible assumption | omega) (fun k hk => ⟨_, (hAr k hk).1, feC_F hF (by have := (hSr.1 k hk).2; omega)⟩) (⟨_, _, _, _, _, _, _, _, hfe2⟩) (fun k hk => (hAr k hk).2) (⟨fun k hk => by have h9 := (hSr.1 k hk).1.1; have := chW_b (hrk _ h9) (hwf _ h9); omega, by omega⟩) (rdS_so hSr)) (csV_138 hts rfl rfl ⟨Nat.le_of_ble_eq_true rfl, Nat.le_of_ble_eq_true rfl⟩) (zPV2 (q0 := 0) (ci := 5) hPc hDc hK hXN rfl rfl) rfl rfl hl.1 rfl (lv_room (Nat.le_of_ble_eq_true rfl)) dX6_gather_62 ⟨Nat.le_of_ble_eq_true rfl, Nat.le_of_ble_eq_true rfl⟩) hS hFc hFc rfl (fun t H locs ht hB hk1 hS => ?_)
            obtain ⟨p7, RA7, WT7, h71, h72, h73, h74, hP1, hD1⟩ := hB
            rw [ht] at hP1
            obtain ⟨hP, hD⟩ := znP (W2 := [(oc5 ro (.ref za) (.ref zw) (.ref zx) (.ref zy) (.ref zg) (nI (n5 + 1))), (oq za cF 200 RA7), (oa zw cI 200 WT7), _, _, _, _, _]) hP hD hk1 hFc hP1 hD1 [0, 1, 2] zl_109 zl_109 [0, 1, 2] (by decide +kernel) rfl rfl rfl rfl rfl
            clear hk1 hPc hDc hFc hP1 hD1 ht
            have hS7 := rdS_ins hSr hR2 h71 (fun k hk => (h72 k hk).2.2) (fun k h1 h2 => (h74 k h1 h2).2.2)
            have hA7 : ∀ k, k < n5 + 1 → RA7 k = some (fe ((insN rd5 p7 g5) k)) ∧ WT7 k = nI (chW rk mn cx cy ((insN rd5 p7 g5) k)) := fun k hk => by rcases insN_c rd5 p7 g5 k with ⟨a9, e9⟩ | ⟨a9, e9⟩ | ⟨a9, e9⟩; (rw [e9, (h72 k a9).1, (h72 k a9).2.1]; exact hAr k (by omega)); (rw [e9, a9, h73.1, h73.2, hfe9]; exact ⟨rfl, rfl⟩); (obtain ⟨j9, rfl⟩ : ∃ j, k = j + 1 := ⟨k - 1, by omega⟩; rw [e9, Nat.add_sub_cancel, (h74 j9 (by omega) (by omega)).1, (h74 j9 (by omega) (by omega)).2.1]; exact hAr j9 (by omega))
            refine lv_iinc (v := nI (g5 + 1)) (lv' := [(2, .int (nI (g5 + 1))), (4, .ref r2), (3, .ref fe2), (0, .ref ro), (1, .ref sh)]) hx hb dX6_gather_65 hl (k := 2) rfl (nI_add g5 1) (Nat.le_of_ble_eq_true rfl) rfl (fun ls hl => ?_)
            refine lv_goto (tgt := 7) hx hb dX6_gather_68 rfl ?_
            exact ih_7 (g5 + 1) (n5 + 1) (insN rd5 p7 g5) RA7 WT7 H locs ls (by first | with_reducible assumption | omega) (by first | with_reducible assumption | omega) (hS7) (by first | exact hA7 | exact hAr) hP hD hS (lv_sub hl [0, 3, 4] rfl)
        · skip
          have hcap2 := hrr2.1
          have hcap3 := hrr2.2.1
          have hnR : ¬ (rdF ft st tn kd) g5 := fun h => hA2 h.1.2.1
          have hc9_1 : inPl L f [(oc1 fe2 (rk g5) (wd g5) (tw g5) (pa g5) (pb g5) (.ref lo2) (.ref lk2) fm2), (oc4 lk2 (kd g5) (st g5) (.ref r2) (gb g5) (it g5) we2), (oc6 r2 (.ref rx2) (.ref ry2) (nI (nN (mn g5))) rg2), (oa rx2 cI cap2 U2), (oa ry2 cI cap2 V2)] := ⟨hfe2, hlk2, hr2, hrx2, hry2, trivial⟩
          have hD0_1 := hD
          obtain ⟨T_1, hT_1, hP, hD⟩ := pl_oT hP hD hc9_1 (pwR hfe2.2 hlk2.2 hr2.2 hrx2.2 hry2.2 hne2)
          obtain ⟨hP, hD⟩ := zre (W2 := ([_, _, _, _, _, _, _, _, _, _, _, _, _] ++ va_pl T_1 f)) hP hD rfl
          refine lv_aload_n hx hb dX6_gather_15 rfl (lv_at hl 2 rfl) ?_
          refine lv_iload_n hx hb dX6_gather_16 rfl (lv_at hl 0 rfl) ?_
          obtain ⟨hPc, hDc, hFc, hI1⟩ := zi_sub (wc := [_, _]) hP hD hS hA [6, 7] rfl rfl
          refine zcall (st1 := [.ref fe2]) (va_runV (As := [.int (nI g5)]) (rest := []) ⟨hx, hb, hml, hown, hts⟩ (k_Sheet_find l dC dI cI cZ cF H.size sh fa ft FA g5 fe2 (by first | with_reducible assumption | omega) (by first | with_reducible assumption | omega) (hFA2)) (csV_135 hts rfl rfl ⟨Nat.le_of_ble_eq_true rfl, Nat.le_of_ble_eq_true rfl⟩) (zPV2 (q0 := 0) (ci := 7) hPc hDc hK hXN rfl rfl) rfl rfl hl.1 rfl (lv_room (Nat.le_of_ble_eq_true rfl)) dX6_gather_17 ⟨Nat.le_of_ble_eq_true rfl, Nat.le_of_ble_eq_true rfl⟩) hS hFc hFc rfl (fun t H locs ht hB hk1 hS => ?_)
          obtain ⟨hP1, hD1⟩ := hB
          rw [ht] at hP1
          replace hP := z0 hP hD hk1 hP1 hI1
          clear hk1 hPc hDc hFc hP1 hD1 ht hI1
          refine lv_astore_n (lv' := [(3, .ref fe2), (2, .int (nI g5)), (0, .ref ro), (1, .ref sh)]) hx hb dX6_gather_20 rfl hl (Nat.le_of_ble_eq_true rfl) rfl (fun ls hl => ?_)
          refine lv_aload_n hx hb dX6_gather_21 rfl (lv_at hl 3 rfl) ?_
          refine lv_iload_n hx hb dX6_gather_22 rfl (lv_at hl 1 rfl) ?_
          obtain ⟨hPc, hDc, hFc, hI1⟩ := zi_sub (wc := [_, _, _, _]) hP hD hS hA [6, 7, 8, 9] (by decide +kernel) rfl
          refine zcall (st1 := [.null]) (va_runV (As := [.int (nI g5)]) (rest := []) ⟨hx, hb, hml, hown, hts⟩ (k_Sheet_rowThere_sv l dC dI cI cZ cF H.size sh fa ft FA g5 fe2 lo2 (rk g5) (wd g5) (tw g5) (pa g5) (pb g5) lk2 (kd g5) (st g5) (gb g5) (it g5) we2 fm2 (.ref r2) (by first | with_reducible assumption | omega) (by first | with_reducible assumption | omega) (hFA2) (by first | exact hA2 | omega)) (csV_136 hts rfl rfl ⟨Nat.le_of_ble_eq_true rfl, Nat.le_of_ble_eq_true rfl⟩) (zPV2 (q0 := 0) (ci := 7) hPc hDc hK hXN rfl rfl) rfl rfl hl.1 rfl (lv_room (Nat.le_of_ble_eq_true rfl)) dX6_gather_23 ⟨Nat.le_of_ble_eq_true rfl, Nat.le_of_ble_eq_true rfl⟩) hS hFc hFc rfl (fun t H locs ht hB hk1 hS => ?_)
          obtain ⟨hP1, hD1⟩ := hB
          rw [ht] at hP1
          replace hP := z0 hP hD hk1 hP1 hI1
          clear hk1 hPc hDc hFc hP1 hD1 ht hI1
          refine lv_astoreN (lv' := [(4, .null), (3, .ref fe2), (2, .int (nI g5)), (0, .ref ro), (1, .ref sh)]) hx hb dX6_gather_26 hl (Nat.le_of_ble_eq_true rfl) rfl (fun ls hl => ?_)
          refine lv_aload_n hx hb dX6_gather_28 rfl (lv_at hl 1 rfl) ?_
          refine lv_ifnull hx hb dX6_gather_29 ?_
          refine lv_aloadN hx hb dX6_gather_32 (lv_at hl 0 rfl) ?_
          refine lv_ifnullN (tgt := 65) hx hb dX6_gather_34 rfl ?_
          obtain ⟨hP, hD⟩ := pl_bk (X := [_, _, _, _, _, _, _, _]) hT_1 hP rfl hc9_1 hD0_1 rfl
          have hS7 := rdS_skip hSr hnR
          refine lv_iinc (v := nI (g5 + 1)) (lv' := [(2, .int (nI (g5 + 1))), (4, .null), (3, .ref fe2), (0, .ref ro), (1, .ref sh)]) hx hb dX6_gather_65 hl (k := 2) rfl (nI_add g5 1) (Nat.le_of_ble_eq_true rfl) rfl (fun ls hl => ?_)
          refine lv_goto (tgt := 7) hx hb dX6_gather_68 rfl ?_
          exact ih_7 (g5 + 1) n5 rd5 RAk WTk H locs ls (by first | with_reducible assumption | omega) (by first | with_reducible assumption | omega) (hS7) (by first | exact hA7 | exact hAr) hP hD hS (lv_sub hl [0, 3, 4] rfl)
  exact hl_7 _ 0 0 (fun k => k) RA WT H locs ls (Nat.lt_succ_self _) (by first | with_reducible assumption | omega) (rdS_0) (by intro k hk; omega) hP hD hS (lv_sub hl [0, 1, 2] rfl)
end
section
set_option maxHeartbeats 4000000 in
set_option maxRecDepth 100000 in
theorem k_Roads_leaveOut_0 (l : Launch) (dC : Nat → ClassId) (dI : Nat → Nat → Nat) (cI cZ cF : ClassId) (sz : Nat) (ro : Nat) (za : Nat) (zw : Nat) (zx : Nat) (zy : Nat) (zg : Nat) (n : Nat) (RA : Nat → Option Nat) (GR : Nat → Int32) (EX : Nat → Int32) (EY : Nat → Int32) (rd : Nat → Nat) (ft : Nat) (st : Nat → Int32) (tn : Nat → Int32) (kd : Nat → Int32) (rk : Nat → Int32) (mn : Nat → Int32) (cx : Nat → Int32) (cy : Nat → Int32) (sn9 : Int32) (hnf : n ≤ ft) (h200 : ft ≤ 200) (hSr : rdS (rdF ft st tn kd) (chW rk mn cx cy) ft n rd) (hgr : grI (fun j => (EX j, EY j)) GR (2 * n)) (hen : ∀ k, k < n → (EX (2 * k), EY (2 * k)) = chB cx cy (rd k) ∧ (EX (2 * k + 1), EY (2 * k + 1)) = chL mn cx cy (rd k)) (hno : ∀ q, ¬ (chM (rdF ft st tn kd) (chW rk mn cx cy) (chB cx cy) (chL mn cx cy)) q) : zM l yX6_leaveOut cX6_leaveOut 6 (some .int) ({ frames := 1, cells := 0, slots := 0, locals := 23 } : Room) [.ref ro, .int sn9] (dC, dI) (zTy cI cZ cF) [(oc5 ro (.ref za) (.ref zw) (.ref zx) (.ref zy) (.ref zg) (nI n)), (oq za cF 200 RA), (oa zg cI 400 GR)] sz (some (.int 0)) (fun A t => ∃ (GR1 : Nat → Int32), zPD (dC, dI) classes A [(oc5 ro (.ref za) (.ref zw) (.ref zx) (.ref zy) (.ref zg) (nI n)), (oq za cF 200 RA), (oa zg cI 400 GR1)] t.heap) 0 0 := by
  refine zIn (own := "ScaleShop$Roads") (loc := [(0, .ref ro), (1, .int sn9)]) rfl rfl rfl rfl (fun p e s m below meth c hx hb hr hts hown hlocks hml hnm9 A hA hS hP hD hK hXN Q9 hQ9 ls hl => ?_)
  refine lv_iconst (v := 0) hx hb dX6_leaveOut_0 rfl ?_
  refine lv_istore_n (lv' := [(2, .int 0), (0, .ref ro), (1, .int sn9)]) hx hb dX6_leaveOut_1 rfl hl (Nat.le_of_ble_eq_true rfl) rfl (fun ls hl => ?_)
  refine lv_iconst (v := 0) hx hb dX6_leaveOut_2 rfl ?_
  refine lv_istore_n (lv' := [(3, .int 0), (2, .int 0), (0, .ref ro), (1, .int sn9)]) hx hb dX6_leaveOut_3 rfl hl (Nat.le_of_ble_eq_true rfl) rfl (fun ls hl => ?_)
  have hl_4 : ∀ (n9 : Nat) (i5 : Nat) (GRk : Nat → Int32) (H : Heap) (locs : List Loc) (ls : Array Slot), n - i5 < n9 → (i5 ≤ n) → (chI (fun q => ∃ k, k < i5 ∧ rd k = q) (chB cx cy) (chL mn cx cy) (fun j => (EX j, EY j)) GRk (2 * n)) → va_P (dC, dI) classes [(oc5 ro (.ref za) (.ref zw) (.ref zx) (.ref zy) (.ref zg) (nI n)), (oq za cF 200 RA), (oa zg cI 400 GRk)] H → va_D A [(oc5 ro (.ref za) (.ref zw) (.ref zx) (.ref zy) (.ref zg) (nI n)), (oq za cF 200 RA), (oa zg cI 400 GRk)] → va_S A s.heap H locs → lv_has ls 6 [(3, .int (nI i5)), (2, .int 0), (0, .ref ro), (1, .int sn9)] → W p l e ({ frames := 1, cells := 0, slots := 0, locals := 23 } : Room) s m ([.ref ro, .int sn9] : List Value).toArray below meth c H locs 0 0 Q9 (F0 m 4 ls []) := by
    intro n9
    induction n9 with
    | zero => intro i5 GRk H locs ls hm; exact absurd hm (Nat.not_lt_zero _)
    | succ n9 ih_4 =>
      intro i5 GRk H locs ls hm hi5 hcI hP hD hS hl
      refine lv_iload_n hx hb dX6_leaveOut_4 rfl (lv_at hl 0 rfl) ?_
      refine lv_aload_n hx hb dX6_leaveOut_5 rfl (lv_at hl 2 rfl) ?_
      refine va_get (D := (dC, dI)) (ci := 5) (v := .int (nI n)) (C := RX6) (T := TX6) (N := 6) hx hb hts inX6 hown hK hP 0 rfl rfl 5 (Nat.le_of_ble_eq_true rfl) (hts _ mw_251) (fun _ h9 => h9) rfl dX6_leaveOut_6 ?_
      have b9_2 : zlt (i5) := show i5 < 2147483648 by omega
      have b9_3 : zlt (n) := show n < 2147483648 by omega
      refine lv_icmp_ge (tgt := 80) hx hb dX6_leaveOut_9 rfl (fun c_1 => ?_) (fun c_1 => ?_)
      · have c_1 : ((n : Nat) : Int) ≤ ((i5 : Nat) : Int) := zc_le (nI_toInt b9_3) (nI_toInt b9_2) c_1
        refine lv_iload_n hx hb dX6_leaveOut_80 rfl (lv_at hl 1 rfl) ?_
        obtain ⟨hP9, hD9⟩ := zu_sub (wc := [_, _, _]) hP hD [true, true, true] rfl rfl
        rw [hQ9]
        exact W.iret (v := 0) hx hb hr (fun t ht hW => ⟨⟨rfl, GRk, by rw [ht]; exact hP9, hD9⟩, hS.F ht⟩) hS.2.2 dX6_leaveOut_81
      · have c_1 : ((i5 : Nat) : Int) < ((n : Nat) : Int) := zc_nle (nI_toInt b9_3) (nI_toInt b9_2) c_1
        refine lv_aload_n hx hb dX6_leaveOut_12 rfl (lv_at hl 2 rfl) ?_
        refine va_get (D := (dC, dI)) (ci := 5) (v := .ref zg) (C := RX6) (T := TX6) (N := 6) hx hb hts inX6 hown hK hP 0 rfl rfl 4 (Nat.le_of_ble_eq_true rfl) (hts _ mw_250) (fun _ h9 => h9) rfl dX6_leaveOut_13 ?_
        refine lv_iconst (v := 2) hx hb dX6_leaveOut_16 rfl ?_
        refine lv_iload_n hx hb dX6_leaveOut_17 rfl (lv_at hl 0 rfl) ?_
        refine lv_imul hx hb dX6_leaveOut_18 ?_
        refine zz_i (v := nI (2 * i5)) (pk_mul 2 i5) ?_
        have b9_4 : 2 * i5 < 400 := by omega
        refine z_iald hx hb hK hP 2 0 rfl rfl (e := 2 * i5) rfl b9_4 (Nat.le_of_ble_eq_true rfl) dX6_leaveOut_19 ?_
        refine lv_istore (lv' := [(4, .int (GRk (2 * i5))), (3, .int (nI i5)), (2, .int 0), (0, .ref ro), (1, .int sn9)]) hx hb dX6_leaveOut_20 hl (Nat.le_of_ble_eq_true rfl) rfl (fun ls hl => ?_)
        refine lv_aload_n hx hb dX6_leaveOut_22 rfl (lv_at hl 3 rfl) ?_
        refine va_get (D := (dC, dI)) (ci := 5) (v := .ref zg) (C := RX6) (T := TX6) (N := 6) hx hb hts inX6 hown hK hP 0 rfl rfl 4 (Nat.le_of_ble_eq_true rfl) (hts _ mw_250) (fun _ h9 => h9) rfl dX6_leaveOut_23 ?_
        refine lv_iconst (v := 2) hx hb dX6_leaveOut_26 rfl ?_
        refine lv_iload_n hx hb dX6_leaveOut_27 rfl (lv_at hl 1 rfl) ?_
        refine lv_imul hx hb dX6_leaveOut_28 ?_
        refine zz_i (v := nI (2 * i5)) (pk_mul 2 i5) ?_
        refine lv_iconst (v := 1) hx hb dX6_leaveOut_29 rfl ?_
        refine lv_iadd hx hb dX6_leaveOut_30 ?_
        refine zz_i (v := nI (2 * i5 + 1)) (nI_add (2 * i5) 1) ?_
        have b9_5 : 2 * i5 + 1 < 400 := by omega
        refine z_iald hx hb hK hP 2 0 rfl rfl (e := 2 * i5 + 1) rfl b9_5 (Nat.le_of_ble_eq_true rfl) dX6_leaveOut_31 ?_
        refine lv_istore (lv' := [(5, .int (GRk (2 * i5 + 1))), (4, .int (GRk (2 * i5))), (3, .int (nI i5)), (2, .int 0), (0, .ref ro), (1, .int sn9)]) hx hb dX6_leaveOut_32 hl (Nat.le_of_ble_eq_true rfl) rfl (fun ls hl => ?_)
        have hmq := chQ (hSr.1 i5 (by omega)).1 (rdS_D hSr (fun q h => h.1.1) (show i5 < n by omega)) hcI (show 2 * i5 < 2 * n by omega) (show 2 * i5 + 1 < 2 * n by omega) (hen i5 (by omega)).1 (hen i5 (by omega)).2
        refine lv_iload hx hb dX6_leaveOut_34 (lv_at hl 1 rfl) ?_
        refine lv_iload hx hb dX6_leaveOut_36 (lv_at hl 0 rfl) ?_
        refine lv_icmp_eq (tgt := 52) hx hb dX6_leaveOut_38 rfl (fun c_6 => ?_) (fun c_6 => ?_)
        · have c_6 : (GRk (2 * i5)).toInt = (GRk (2 * i5 + 1)).toInt := zc_eq rfl rfl c_6
          exfalso; exact absurd (hmq.mpr (by first | with_reducible assumption | assumption)) (hno _)
        · have c_6 : ¬ (GRk (2 * i5)).toInt = (GRk (2 * i5 + 1)).toInt := zc_ne rfl rfl c_6
          refine lv_aload_n hx hb dX6_leaveOut_41 rfl (lv_at hl 4 rfl) ?_
          refine lv_iload hx hb dX6_leaveOut_42 (lv_at hl 1 rfl) ?_
          refine lv_iload hx hb dX6_leaveOut_44 (lv_at hl 0 rfl) ?_
          obtain ⟨hPc, hDc, hFc⟩ := zo_sub (wc := [_, _]) hP hD hS hA [0, 2] rfl rfl
          refine zcall (st1 := []) (va_runV (As := [.int (GRk (2 * i5)), .int (GRk (2 * i5 + 1))]) (rest := []) ⟨hx, hb, hml, hown, hts⟩ (k_Roads_unite l dC dI cI cZ cF H.size ro za zw zx zy zg n (GRk (2 * i5)) (GRk (2 * i5 + 1)) GRk (by first | with_reducible assumption | omega)) (csV_139 hts rfl rfl ⟨Nat.le_of_ble_eq_true rfl, Nat.le_of_ble_eq_true rfl⟩) (zPV2 (q0 := 0) (ci := 5) hPc hDc hK hXN rfl rfl) rfl rfl hl.1 rfl (lv_room (Nat.le_of_ble_eq_true rfl)) dX6_leaveOut_46 ⟨Nat.le_of_ble_eq_true rfl, Nat.le_of_ble_eq_true rfl⟩) hS hFc hFc rfl (fun t H locs ht hB hk1 hS => ?_)
          obtain ⟨GR7, h7, hP1, hD1⟩ := hB
          rw [ht] at hP1
          obtain ⟨hP, hD⟩ := zn (W2 := [_, _, (oa zg cI 400 GR7)]) hP hD hk1 hFc hP1 hD1 [0, 2] [false, true] [false, true, false] [0, 2] (by decide +kernel) rfl rfl rfl rfl rfl
          clear hk1 hPc hDc hFc hP1 hD1 ht
          refine lv_goto (tgt := 74) hx hb dX6_leaveOut_49 rfl ?_
          refine lv_iinc (v := nI (i5 + 1)) (lv' := [(3, .int (nI (i5 + 1))), (5, .int (GRk (2 * i5 + 1))), (4, .int (GRk (2 * i5))), (2, .int 0), (0, .ref ro), (1, .int sn9)]) hx hb dX6_leaveOut_74 hl (k := 2) rfl (nI_add i5 1) (Nat.le_of_ble_eq_true rfl) rfl (fun ls hl => ?_)
          refine lv_goto (tgt := 4) hx hb dX6_leaveOut_77 rfl ?_
          exact ih_4 (i5 + 1) GR7 H locs ls (by first | with_reducible assumption | omega) (by first | with_reducible assumption | omega) (chO_s hcI (by first | with_reducible assumption | omega) (hen i5 (by first | with_reducible assumption | omega)).1 (hen i5 (by first | with_reducible assumption | omega)).2 h7) hP hD hS (lv_sub hl [0, 3, 4, 5] rfl)
  exact hl_4 _ 0 GR s.heap [] ls (Nat.lt_succ_self _) (by first | with_reducible assumption | omega) (chO_0 (grI_chI (by first | with_reducible assumption | omega) hgr)) hP hD hS (lv_sub hl [0, 1, 2, 3] rfl)
set_option maxHeartbeats 4000000 in
set_option maxRecDepth 100000 in
theorem k_Roads_leaveOut_y (l : Launch) (dC : Nat → ClassId) (dI : Nat → Nat → Nat) (cI cZ cF : ClassId) (sz : Nat) (cO : ClassId) (e0 : Nat) (mi : Nat) (ro : Nat) (za : Nat) (zw : Nat) (zx : Nat) (zy : Nat) (zg : Nat) (n : Nat) (RA : Nat → Option Nat) (GR : Nat → Int32) (EX : Nat → Int32) (EY : Nat → Int32) (rd : Nat → Nat) (FA : Nat → Option Nat) (ea : Nat) (bs : Nat) (dn : Nat) (T : Nat) (ft : Nat) (FT : Nat → Nat) (V : Nat → Nat → Nat → Int32) (VX : Nat → Nat → Int32) (VY : Nat → Nat → Int32) (tn : Nat → Int32) (rk : Nat → Int32) (wd : Nat → Int32) (tw : Nat → Int32) (pa : Nat → Int32) (pb : Nat → Int32) (wh : Nat → Int32) (of9 : Nat → Int32) (we : Nat → Int32) (kd : Nat → Int32) (st : Nat → Int32) (gb : Nat → Int32) (it : Nat → Int32) (mn : Nat → Int32) (cx : Nat → Int32) (cy : Nat → Int32) (L : List Nat) (f : Nat → va_E) (own : Nat → Nat) (fe : Nat → Nat) (cl : Nat → Nat) (la : Nat → Nat → Nat) (sp : Nat → Nat) (SA : Nat → Option Nat) (hnf : n ≤ ft) (h200 : ft ≤ 200) (hSr : rdS (rdF ft st tn kd) (chW rk mn cx cy) ft n rd) (hgr : grI (fun j => (EX j, EY j)) GR (2 * n)) (hen : ∀ k, k < n → (EX (2 * k), EY (2 * k)) = chB cx cy (rd k) ∧ (EX (2 * k + 1), EY (2 * k + 1)) = chL mn cx cy (rd k)) (hRf : ∀ k, k < n → RA k = some (fe (rd k))) (hG : shG cI cO L f e0 FA ea T own fe cl la (la dn) (fun _ => 0) sp (fun _ => .null) SA bs dn dn ft ft FT V VX VY tn rk wd tw pa pb wh of9 we kd st gb it mn cx cy) (hM : mdA dn ft FT la (la dn) (fun _ => 0) (fun _ => .null) V kd st gb it) (hO : loG cI L f own fe (la dn) (fun _ => 0) la bs dn dn ft ft FT V (V dn)) (hft9 : ft = FT dn) (hit : ∀ q, q < ft → (st q).toInt = 1 → it q = -1) : zML l yX6_leaveOut cX6_leaveOut 6 (some .int) ({ frames := 5, cells := n, slots := 6 * n, locals := 95 } : Room) [.ref ro, .int (nI (dn + 1))] (dC, dI) (zTyO cI cZ cF cO) e0 mi ([(oc5 ro (.ref za) (.ref zw) (.ref zx) (.ref zy) (.ref zg) (nI n)), (oq za cF 200 RA), (oa zg cI 400 GR)] ++ va_pl L f) sz (some (.int (nI (cntP (chM (rdF ft st tn kd) (chW rk mn cx cy) (chB cx cy) (chL mn cx cy)) ft)))) (fun A t => ∃ (L1 : List Nat), ∃ (f1 : Nat → va_E), ∃ (own6 : Nat → Nat), ∃ (nw6 : Nat → Nat), ∃ (md6 : Nat → Nat), ∃ (fm6 : Nat → Value), ∃ (GR1 : Nat → Int32), (shG cI cO L1 f1 e0 FA ea T own6 fe cl la nw6 md6 sp fm6 SA bs dn dn ft ft FT V VX VY tn rk wd tw pa pb wh of9 we kd (gnA (chM (rdF ft st tn kd) (chW rk mn cx cy) (chB cx cy) (chL mn cx cy)) ft 2 st) (gnA (chM (rdF ft st tn kd) (chW rk mn cx cy) (chB cx cy) (chL mn cx cy)) ft (nI (dn + 1)) gb) (gnA (chM (rdF ft st tn kd) (chW rk mn cx cy) (chB cx cy) (chL mn cx cy)) ft (-1 : Int32) it) mn cx cy) ∧ (mdA dn ft FT la nw6 md6 fm6 V kd (gnA (chM (rdF ft st tn kd) (chW rk mn cx cy) (chB cx cy) (chL mn cx cy)) ft 2 st) (gnA (chM (rdF ft st tn kd) (chW rk mn cx cy) (chB cx cy) (chL mn cx cy)) ft (nI (dn + 1)) gb) (gnA (chM (rdF ft st tn kd) (chW rk mn cx cy) (chB cx cy) (chL mn cx cy)) ft (-1 : Int32) it)) ∧ (loG cI L1 f1 own6 fe nw6 md6 la bs dn dn ft ft FT V (V dn)) ∧ zPD (dC, dI) classes A ([(oc5 ro (.ref za) (.ref zw) (.ref zx) (.ref zy) (.ref zg) (nI n)), (oq za cF 200 RA), (oa zg cI 400 GR1)] ++ va_pl L1 f1) t.heap) n (6 * n) := by
  refine zInL (own := "ScaleShop$Roads") (loc := [(0, .ref ro), (1, .int (nI (dn + 1)))]) rfl rfl rfl rfl (fun p e s m below meth c hx hb hr hts hown hlocks hml hnm9 A hA hS hP hD hK hXL hXN hK3 Q9 hQ9 ls hl => ?_)
  refine lv_iconst (v := 0) hx hb dX6_leaveOut_0 rfl ?_
  refine lv_istore_n (lv' := [(2, .int 0), (0, .ref ro), (1, .int (nI (dn + 1)))]) hx hb dX6_leaveOut_1 rfl hl (Nat.le_of_ble_eq_true rfl) rfl (fun ls hl => ?_)
  refine lv_iconst (v := 0) hx hb dX6_leaveOut_2 rfl ?_
  refine lv_istore_n (lv' := [(3, .int 0), (2, .int 0), (0, .ref ro), (1, .int (nI (dn + 1)))]) hx hb dX6_leaveOut_3 rfl hl (Nat.le_of_ble_eq_true rfl) rfl (fun ls hl => ?_)
  have hl_4 : ∀ (n9 : Nat) (i5 : Nat) (GRk : Nat → Int32) (L6 : List Nat) (f6 : Nat → va_E) (own6 : Nat → Nat) (nw6 : Nat → Nat) (md6 : Nat → Nat) (fm6 : Nat → Value) (H : Heap) (locs : List Loc) (ls : Array Slot), n - i5 < n9 → (i5 ≤ n) → (chI (fun q => ∃ k, k < i5 ∧ rd k = q) (chB cx cy) (chL mn cx cy) (fun j => (EX j, EY j)) GRk (2 * n)) → ((shG cI cO L6 f6 e0 FA ea T own6 fe cl la nw6 md6 sp fm6 SA bs dn dn ft ft FT V VX VY tn rk wd tw pa pb wh of9 we kd (gnA (rdG rd (chM (rdF ft st tn kd) (chW rk mn cx cy) (chB cx cy) (chL mn cx cy)) i5) ft 2 st) (gnA (rdG rd (chM (rdF ft st tn kd) (chW rk mn cx cy) (chB cx cy) (chL mn cx cy)) i5) ft (nI (dn + 1)) gb) (gnA (rdG rd (chM (rdF ft st tn kd) (chW rk mn cx cy) (chB cx cy) (chL mn cx cy)) i5) ft (-1 : Int32) it) mn cx cy) ∧ (mdA dn ft FT la nw6 md6 fm6 V kd (gnA (rdG rd (chM (rdF ft st tn kd) (chW rk mn cx cy) (chB cx cy) (chL mn cx cy)) i5) ft 2 st) (gnA (rdG rd (chM (rdF ft st tn kd) (chW rk mn cx cy) (chB cx cy) (chL mn cx cy)) i5) ft (nI (dn + 1)) gb) (gnA (rdG rd (chM (rdF ft st tn kd) (chW rk mn cx cy) (chB cx cy) (chL mn cx cy)) i5) ft (-1 : Int32) it)) ∧ (∀ q, (∀ k, k < i5 → rd k ≠ q) → md6 q = 0) ∧ (loG cI L6 f6 own6 fe nw6 md6 la bs dn dn ft ft FT V (V dn))) → va_P (dC, dI) classes ([(oc5 ro (.ref za) (.ref zw) (.ref zx) (.ref zy) (.ref zg) (nI n)), (oq za cF 200 RA), (oa zg cI 400 GRk)] ++ va_pl L6 f6) H → va_D A ([(oc5 ro (.ref za) (.ref zw) (.ref zx) (.ref zy) (.ref zg) (nI n)), (oq za cF 200 RA), (oa zg cI 400 GRk)] ++ va_pl L6 f6) → va_S A s.heap H locs → lv_has ls 6 [(3, .int (nI i5)), (2, .int (nI (cntP (rdG rd (chM (rdF ft st tn kd) (chW rk mn cx cy) (chB cx cy) (chL mn cx cy)) i5) ft))), (0, .ref ro), (1, .int (nI (dn + 1)))] → W p l e ({ frames := 5, cells := n, slots := 6 * n, locals := 95 } : Room) s m ([.ref ro, .int (nI (dn + 1))] : List Value).toArray below meth c H locs i5 (6 * i5) Q9 (F0 m 4 ls []) := by
    intro n9
    induction n9 with
    | zero => intro i5 GRk L6 f6 own6 nw6 md6 fm6 H locs ls hm; exact absurd hm (Nat.not_lt_zero _)
    | succ n9 ih_4 =>
      intro i5 GRk L6 f6 own6 nw6 md6 fm6 H locs ls hm hi5 hcI hJ6 hP hD hS hl
      have hcb := cntP_b (rdG rd (chM (rdF ft st tn kd) (chW rk mn cx cy) (chB cx cy) (chL mn cx cy)) i5) ft
      refine lv_iload_n hx hb dX6_leaveOut_4 rfl (lv_at hl 0 rfl) ?_
      refine lv_aload_n hx hb dX6_leaveOut_5 rfl (lv_at hl 2 rfl) ?_
      refine va_get (D := (dC, dI)) (ci := 5) (v := .int (nI n)) (C := RX6) (T := TX6) (N := 6) hx hb hts inX6 hown hK hP 0 rfl rfl 5 (Nat.le_of_ble_eq_true rfl) (hts _ mw_251) (fun _ h9 => h9) rfl dX6_leaveOut_6 ?_
      have b9_2 : zlt (i5) := show i5 < 2147483648 by omega
      have b9_3 : zlt (n) := show n < 2147483648 by omega
      refine lv_icmp_ge (tgt := 80) hx hb dX6_leaveOut_9 rfl (fun c_1 => ?_) (fun c_1 => ?_)
      · have c_1 : ((n : Nat) : Int) ≤ ((i5 : Nat) : Int) := zc_le (nI_toInt b9_3) (nI_toInt b9_2) c_1
        have hie : i5 = n := (by omega)
        rw [hie] at hJ6
        have hall : ∀ q, q < ft → (chM (rdF ft st tn kd) (chW rk mn cx cy) (chB cx cy) (chL mn cx cy)) q → ∃ k, k < n ∧ rd k = q := fun q hq h => hSr.2.1 q hq h.1
        rw [gnG_e hall, gnG_e hall, gnG_e hall] at hJ6
        refine lv_iload_n hx hb dX6_leaveOut_80 rfl (lv_at hl 1 rfl) ?_
        obtain ⟨hP9, hD9⟩ := zu_part (cx := [_, _, _]) hP hD [true, true, true] rfl rfl
        refine W.widen (k := n) (n := 6 * n) (by omega) (by omega) ?_
        rw [hQ9]
        exact W.iret (v := nI (cntP (rdG rd (chM (rdF ft st tn kd) (chW rk mn cx cy) (chB cx cy) (chL mn cx cy)) i5) ft)) hx hb hr (fun t ht hW => ⟨⟨congrArg (fun z => Outcome.returned (some (Value.int z))) (show (nI (cntP (rdG rd (chM (rdF ft st tn kd) (chW rk mn cx cy) (chB cx cy) (chL mn cx cy)) i5) ft) : Int32) = nI (cntP (chM (rdF ft st tn kd) (chW rk mn cx cy) (chB cx cy) (chL mn cx cy)) ft) from by rw [hie, cnG_e hall]), L6, f6, own6, nw6, md6, fm6, GRk, (hJ6.1), (hJ6.2.1), (hJ6.2.2.2), by rw [ht]; exact hP9, hD9⟩, hS.F ht⟩) hS.2.2 dX6_leaveOut_81
      · have c_1 : ((i5 : Nat) : Int) < ((n : Nat) : Int) := zc_nle (nI_toInt b9_3) (nI_toInt b9_2) c_1
        refine lv_aload_n hx hb dX6_leaveOut_12 rfl (lv_at hl 2 rfl) ?_
        refine va_get (D := (dC, dI)) (ci := 5) (v := .ref zg) (C := RX6) (T := TX6) (N := 6) hx hb hts inX6 hown hK hP 0 rfl rfl 4 (Nat.le_of_ble_eq_true rfl) (hts _ mw_250) (fun _ h9 => h9) rfl dX6_leaveOut_13 ?_
        refine lv_iconst (v := 2) hx hb dX6_leaveOut_16 rfl ?_
        refine lv_iload_n hx hb dX6_leaveOut_17 rfl (lv_at hl 0 rfl) ?_
        refine lv_imul hx hb dX6_leaveOut_18 ?_
        refine zz_i (v := nI (2 * i5)) (pk_mul 2 i5) ?_
        have b9_4 : 2 * i5 < 400 := by omega
        refine z_iald hx hb hK hP 2 0 rfl rfl (e := 2 * i5) rfl b9_4 (Nat.le_of_ble_eq_true rfl) dX6_leaveOut_19 ?_
        refine lv_istore (lv' := [(4, .int (GRk (2 * i5))), (3, .int (nI i5)), (2, .int (nI (cntP (rdG rd (chM (rdF ft st tn kd) (chW rk mn cx cy) (chB cx cy) (chL mn cx cy)) i5) ft))), (0, .ref ro), (1, .int (nI (dn + 1)))]) hx hb dX6_leaveOut_20 hl (Nat.le_of_ble_eq_true rfl) rfl (fun ls hl => ?_)
        refine lv_aload_n hx hb dX6_leaveOut_22 rfl (lv_at hl 3 rfl) ?_
        refine va_get (D := (dC, dI)) (ci := 5) (v := .ref zg) (C := RX6) (T := TX6) (N := 6) hx hb hts inX6 hown hK hP 0 rfl rfl 4 (Nat.le_of_ble_eq_true rfl) (hts _ mw_250) (fun _ h9 => h9) rfl dX6_leaveOut_23 ?_
        refine lv_iconst (v := 2) hx hb dX6_leaveOut_26 rfl ?_
        refine lv_iload_n hx hb dX6_leaveOut_27 rfl (lv_at hl 1 rfl) ?_
        refine lv_imul hx hb dX6_leaveOut_28 ?_
        refine zz_i (v := nI (2 * i5)) (pk_mul 2 i5) ?_
        refine lv_iconst (v := 1) hx hb dX6_leaveOut_29 rfl ?_
        refine lv_iadd hx hb dX6_leaveOut_30 ?_
        refine zz_i (v := nI (2 * i5 + 1)) (nI_add (2 * i5) 1) ?_
        have b9_5 : 2 * i5 + 1 < 400 := by omega
        refine z_iald hx hb hK hP 2 0 rfl rfl (e := 2 * i5 + 1) rfl b9_5 (Nat.le_of_ble_eq_true rfl) dX6_leaveOut_31 ?_
        refine lv_istore (lv' := [(5, .int (GRk (2 * i5 + 1))), (4, .int (GRk (2 * i5))), (3, .int (nI i5)), (2, .int (nI (cntP (rdG rd (chM (rdF ft st tn kd) (chW rk mn cx cy) (chB cx cy) (chL mn cx cy)) i5) ft))), (0, .ref ro), (1, .int (nI (dn + 1)))]) hx hb dX6_leaveOut_32 hl (Nat.le_of_ble_eq_true rfl) rfl (fun ls hl => ?_)
        have hmq := chQ (hSr.1 i5 (by omega)).1 (rdS_D hSr (fun q h => h.1.1) (show i5 < n by omega)) hcI (show 2 * i5 < 2 * n by omega) (show 2 * i5 + 1 < 2 * n by omega) (hen i5 (by omega)).1 (hen i5 (by omega)).2
        refine lv_iload hx hb dX6_leaveOut_34 (lv_at hl 1 rfl) ?_
        refine lv_iload hx hb dX6_leaveOut_36 (lv_at hl 0 rfl) ?_
        refine lv_icmp_eq (tgt := 52) hx hb dX6_leaveOut_38 rfl (fun c_6 => ?_) (fun c_6 => ?_)
        · have c_6 : (GRk (2 * i5)).toInt = (GRk (2 * i5 + 1)).toInt := zc_eq rfl rfl c_6
          refine lv_aload_n hx hb dX6_leaveOut_52 rfl (lv_at hl 4 rfl) ?_
          refine va_get (D := (dC, dI)) (ci := 5) (v := .ref za) (C := RX6) (T := TX6) (N := 6) hx hb hts inX6 hown hK hP 0 rfl rfl 0 (Nat.le_of_ble_eq_true rfl) (hts _ mw_246) (fun _ h9 => h9) rfl dX6_leaveOut_53 ?_
          refine lv_iload_n hx hb dX6_leaveOut_56 rfl (lv_at hl 2 rfl) ?_
          have b9_7 : i5 < 200 := by omega
          refine z_aald hx hb hK hP 1 2 rfl rfl (e := i5) rfl b9_7 (Nat.le_of_ble_eq_true rfl) (v := .ref (fe (rd i5))) (by rw [hRf i5 (by omega)]; rfl) dX6_leaveOut_57 ?_
          refine lv_ifnull hx hb dX6_leaveOut_58 ?_
          have hMk : (chM (rdF ft st tn kd) (chW rk mn cx cy) (chB cx cy) (chL mn cx cy)) (rd i5) := hmq.mpr (by first | with_reducible assumption | assumption)
          obtain ⟨hG6, hM6, hmd6, hO6⟩ := hJ6
          have hlv := hMk.1.1
          have hm6 := hmd6 (rd i5) (rdS_f hSr (show i5 < n by omega))
          have es6 : (gnA (rdG rd (chM (rdF ft st tn kd) (chW rk mn cx cy) (chB cx cy) (chL mn cx cy)) i5) ft 2 st) (rd i5) = st (rd i5) := gnG_o (rdG_f (rdS_f hSr (show i5 < n by omega)))
          have eg6 : (gnA (rdG rd (chM (rdF ft st tn kd) (chW rk mn cx cy) (chB cx cy) (chL mn cx cy)) i5) ft (nI (dn + 1)) gb) (rd i5) = gb (rd i5) := gnG_o (rdG_f (rdS_f hSr (show i5 < n by omega)))
          have ei6 : (gnA (rdG rd (chM (rdF ft st tn kd) (chW rk mn cx cy) (chB cx cy) (chL mn cx cy)) i5) ft (-1 : Int32) it) (rd i5) = it (rd i5) := gnG_o (rdG_f (rdS_f hSr (show i5 < n by omega)))
          refine ex13 (sh_fc hG6.1 hG6.2.1 (Nat.le_refl _) hlv.1 hlv.2.2) (fun lo5 lx5 ly5 ln5 LX5 LY5 we5 r5 rx5 ry5 cap5 X5 Y5 hc5 => ?_)
          rw [((hM6 (rd i5) hlv.1).1 hm6).1, hm6] at hc5
          have hc5 := fc_0 hc5
          have hb5 := hc5.2.2.1
          have hc9_1 : inPl L6 f6 [(oc1 (fe (rd i5)) (rk (rd i5)) (wd (rd i5)) (tw (rd i5)) (pa (rd i5)) (pb (rd i5)) (.ref lo5) (.ref (nw6 (rd i5))) .null), (oc4 (nw6 (rd i5)) (kd (rd i5)) ((gnA (rdG rd (chM (rdF ft st tn kd) (chW rk mn cx cy) (chB cx cy) (chL mn cx cy)) i5) ft 2 st) (rd i5)) (.ref r5) ((gnA (rdG rd (chM (rdF ft st tn kd) (chW rk mn cx cy) (chB cx cy) (chL mn cx cy)) i5) ft (nI (dn + 1)) gb) (rd i5)) ((gnA (rdG rd (chM (rdF ft st tn kd) (chW rk mn cx cy) (chB cx cy) (chL mn cx cy)) i5) ft (-1 : Int32) it) (rd i5)) (nI we5)), (oc6 r5 (.ref rx5) (.ref ry5) (nI (nN (mn (rd i5)))) (rgK (kd (rd i5)).toInt)), (oa rx5 cI cap5 X5), (oa ry5 cI cap5 Y5), (oc6 lo5 (.ref lx5) (.ref ly5) (nI ln5) 0), (oa lx5 cI (cl (rd i5)) LX5), (oa ly5 cI (cl (rd i5)) LY5)] := ⟨ce_pl hc5.1.1, ce_pl hc5.1.2.1, ce_pl hc5.1.2.2.1.1, ce_pl hc5.1.2.2.1.2.1, ce_pl hc5.1.2.2.1.2.2.1, ce_pl hc5.1.2.2.2.1, ce_pl hc5.1.2.2.2.2.1, ce_pl hc5.1.2.2.2.2.2.1, trivial⟩
          have hD0_1 := hD
          obtain ⟨T_1, hT_1, hP, hD⟩ := pl_oT hP hD hc9_1 (pw8 hc5 (by omega))
          obtain ⟨hP, hD⟩ := zre (W2 := ([_, _, _, _, _, _, _, _, _, _, _] ++ va_pl T_1 f6)) hP hD rfl
          refine lv_aload_n hx hb dX6_leaveOut_61 rfl (lv_at hl 4 rfl) ?_
          refine va_get (D := (dC, dI)) (ci := 5) (v := .ref za) (C := RX6) (T := TX6) (N := 6) hx hb hts inX6 hown hK hP 0 rfl rfl 0 (Nat.le_of_ble_eq_true rfl) (hts _ mw_246) (fun _ h9 => h9) rfl dX6_leaveOut_62 ?_
          refine lv_iload_n hx hb dX6_leaveOut_65 rfl (lv_at hl 2 rfl) ?_
          refine z_aald hx hb hK hP 1 2 rfl rfl (e := i5) rfl b9_7 (Nat.le_of_ble_eq_true rfl) (v := .ref (fe (rd i5))) (by rw [hRf i5 (by omega)]; rfl) dX6_leaveOut_66 ?_
          refine lv_iload_n hx hb dX6_leaveOut_67 rfl (lv_at hl 5 rfl) ?_
          obtain ⟨hPc, hDc, hFc⟩ := zo_sub (wc := [_, _]) hP hD hS hA [3, 4] rfl rfl
          refine zcall (st1 := []) (va_runV (As := [.int (nI (dn + 1))]) (rest := []) ⟨hx, hb, hml, hown, hts⟩ (k_Feature_leave_r l dC dI cI cZ cF H.size (fe (rd i5)) lo5 (rk (rd i5)) (wd (rd i5)) (tw (rd i5)) (pa (rd i5)) (pb (rd i5)) (nw6 (rd i5)) (kd (rd i5)) ((gnA (rdG rd (chM (rdF ft st tn kd) (chW rk mn cx cy) (chB cx cy) (chL mn cx cy)) i5) ft 2 st) (rd i5)) ((gnA (rdG rd (chM (rdF ft st tn kd) (chW rk mn cx cy) (chB cx cy) (chL mn cx cy)) i5) ft (nI (dn + 1)) gb) (rd i5)) ((gnA (rdG rd (chM (rdF ft st tn kd) (chW rk mn cx cy) (chB cx cy) (chL mn cx cy)) i5) ft (-1 : Int32) it) (rd i5)) (nI we5) r5 (nI (dn + 1)) ) (csV_140 hts rfl rfl ⟨Nat.le_of_ble_eq_true rfl, Nat.le_of_ble_eq_true rfl⟩) (zPV2 (q0 := 0) (ci := 1) hPc hDc hK3 hXN rfl rfl) rfl rfl hl.1 rfl (lv_room (Nat.le_of_ble_eq_true rfl)) dX6_leaveOut_68 ⟨show (i5 + 1) ≤ n by omega, show (6 * i5 + 6) ≤ 6 * n by omega⟩) hS hFc hFc rfl (fun t H locs ht hB hk1 hS => ?_)
          obtain ⟨q7, hP1, hD1⟩ := hB
          rw [ht] at hP1
          obtain ⟨hP, hD⟩ := znQ (W2 := [_, _, _, _, _, _, _, _, _, (oc1 (fe (rd i5)) (rk (rd i5)) (wd (rd i5)) (tw (rd i5)) (pa (rd i5)) (pb (rd i5)) (.ref lo5) (.ref q7) (.ref (nw6 (rd i5)))), (oc4 (nw6 (rd i5)) (kd (rd i5)) ((gnA (rdG rd (chM (rdF ft st tn kd) (chW rk mn cx cy) (chB cx cy) (chL mn cx cy)) i5) ft 2 st) (rd i5)) (.ref r5) ((gnA (rdG rd (chM (rdF ft st tn kd) (chW rk mn cx cy) (chB cx cy) (chL mn cx cy)) i5) ft (nI (dn + 1)) gb) (rd i5)) ((gnA (rdG rd (chM (rdF ft st tn kd) (chW rk mn cx cy) (chB cx cy) (chL mn cx cy)) i5) ft (-1 : Int32) it) (rd i5)) (nI we5)), (oc4 q7 (kd (rd i5)) 2 (.ref r5) (nI (dn + 1)) ((gnA (rdG rd (chM (rdF ft st tn kd) (chW rk mn cx cy) (chB cx cy) (chL mn cx cy)) i5) ft (-1 : Int32) it) (rd i5)) (nI we5))]) hP hD hk1 hFc hP1 hD1 [3, 4] zl_110 zl_8 [9, 10, 11] (by decide +kernel) rfl rfl rfl rfl rfl
          clear hk1 hPc hDc hFc hP1 hD1 ht
          obtain ⟨hP, hD⟩ := zq_part (cx := [_, _, _, _, _, _, _, _, _, _, _, _]) hP hD [0, 1, 2, 9, 10, 3, 4, 5, 6, 7, 8, 11] rfl rfl
          obtain ⟨Lp1, fp1, hP, hD, hpin_1⟩ := pl_pn (X := [_, _, _]) (old := [_, _, _, _, _, _, _, _]) (new := [_]) (cs1 := [_, _, _, _, _, _, _, _, _]) (L := L6) (cs := [(oc1 (fe (rd i5)) (rk (rd i5)) (wd (rd i5)) (tw (rd i5)) (pa (rd i5)) (pb (rd i5)) (.ref lo5) (.ref (nw6 (rd i5))) .null), (oc4 (nw6 (rd i5)) (kd (rd i5)) ((gnA (rdG rd (chM (rdF ft st tn kd) (chW rk mn cx cy) (chB cx cy) (chL mn cx cy)) i5) ft 2 st) (rd i5)) (.ref r5) ((gnA (rdG rd (chM (rdF ft st tn kd) (chW rk mn cx cy) (chB cx cy) (chL mn cx cy)) i5) ft (nI (dn + 1)) gb) (rd i5)) ((gnA (rdG rd (chM (rdF ft st tn kd) (chW rk mn cx cy) (chB cx cy) (chL mn cx cy)) i5) ft (-1 : Int32) it) (rd i5)) (nI we5)), (oc6 r5 (.ref rx5) (.ref ry5) (nI (nN (mn (rd i5)))) (rgK (kd (rd i5)).toInt)), (oa rx5 cI cap5 X5), (oa ry5 cI cap5 Y5), (oc6 lo5 (.ref lx5) (.ref ly5) (nI ln5) 0), (oa lx5 cI (cl (rd i5)) LX5), (oa ly5 cI (cl (rd i5)) LY5)]) hT_1 hP hD rfl rfl rfl
          obtain ⟨hfr_1, hkp_1, hce_1, hsx_1, hpw_1⟩ := id hpin_1
          obtain ⟨own7, nw7, md7, fm7, hG7, hM7, hmd7, hO7⟩ := M_leave (m := 0) (kd1 := kd) (st1 := upd (gnA (rdG rd (chM (rdF ft st tn kd) (chW rk mn cx cy) (chB cx cy) (chL mn cx cy)) i5) ft 2 st) (rd i5) 2) (gb1 := upd (gnA (rdG rd (chM (rdF ft st tn kd) (chW rk mn cx cy) (chB cx cy) (chL mn cx cy)) i5) ft (nI (dn + 1)) gb) (rd i5) (nI (dn + 1))) (it1 := upd (gnA (rdG rd (chM (rdF ft st tn kd) (chW rk mn cx cy) (chB cx cy) (chL mn cx cy)) i5) ft (-1 : Int32) it) (rd i5) (-1 : Int32)) hG6 hM6 hm6 hlv.1 (by rw [← hft9]; exact hlv.1) (by rw [es6]; have := hlv.2.1; omega) (by rw [up_at]; decide) hlv.2.2 hc5 ⟨rfl, rfl, rfl, rfl⟩ hpin_1 (fun p hp => ⟨rfl, if_neg hp, if_neg hp, if_neg hp, rfl, fun k _ => ⟨rfl, rfl⟩⟩) rfl (up_at _ _ _) (up_at _ _ _) ((up_at _ _ _).trans (by rw [ei6]; exact (hit (rd i5) hlv.1 hlv.2.1).symm)) rfl (fun g => g) hO6
          rw [gnG_y hMk hlv.1, gnG_y hMk hlv.1, gnG_y hMk hlv.1] at hG7 hM7
          have hJ7 : (shG cI cO Lp1 fp1 e0 FA ea T own7 fe cl la nw7 md7 sp fm7 SA bs dn dn ft ft FT V VX VY tn rk wd tw pa pb wh of9 we kd (gnA (rdG rd (chM (rdF ft st tn kd) (chW rk mn cx cy) (chB cx cy) (chL mn cx cy)) (i5 + 1)) ft 2 st) (gnA (rdG rd (chM (rdF ft st tn kd) (chW rk mn cx cy) (chB cx cy) (chL mn cx cy)) (i5 + 1)) ft (nI (dn + 1)) gb) (gnA (rdG rd (chM (rdF ft st tn kd) (chW rk mn cx cy) (chB cx cy) (chL mn cx cy)) (i5 + 1)) ft (-1 : Int32) it) mn cx cy) ∧ (mdA dn ft FT la nw7 md7 fm7 V kd (gnA (rdG rd (chM (rdF ft st tn kd) (chW rk mn cx cy) (chB cx cy) (chL mn cx cy)) (i5 + 1)) ft 2 st) (gnA (rdG rd (chM (rdF ft st tn kd) (chW rk mn cx cy) (chB cx cy) (chL mn cx cy)) (i5 + 1)) ft (nI (dn + 1)) gb) (gnA (rdG rd (chM (rdF ft st tn kd) (chW rk mn cx cy) (chB cx cy) (chL mn cx cy)) (i5 + 1)) ft (-1 : Int32) it)) ∧ (∀ q, (∀ k, k < (i5 + 1) → rd k ≠ q) → md7 q = 0) ∧ (loG cI Lp1 fp1 own7 fe nw7 md7 la bs dn dn ft ft FT V (V dn)) := ⟨hG7, hM7, fun q hq => by rw [hmd7, upN_o (hq i5 (by omega)).symm]; exact hmd6 q (fun k hk => hq k (by omega)), hO7⟩
          have h7 : ∀ k, k < 2 * n → GRk k = if GRk k = GRk (2 * i5 + 1) then GRk (2 * i5) else GRk k := fun k _ => unG_s (by first | with_reducible assumption | assumption) k
          have hcI7 := chO_s hcI (by omega) (hen i5 (by omega)).1 (hen i5 (by omega)).2 h7
          refine lv_iinc (v := nI ((cntP (rdG rd (chM (rdF ft st tn kd) (chW rk mn cx cy) (chB cx cy) (chL mn cx cy)) i5) ft) + 1)) (lv' := [(2, .int (nI ((cntP (rdG rd (chM (rdF ft st tn kd) (chW rk mn cx cy) (chB cx cy) (chL mn cx cy)) i5) ft) + 1))), (5, .int (GRk (2 * i5 + 1))), (4, .int (GRk (2 * i5))), (3, .int (nI i5)), (0, .ref ro), (1, .int (nI (dn + 1)))]) hx hb dX6_leaveOut_71 hl (k := 3) rfl (nI_add (cntP (rdG rd (chM (rdF ft st tn kd) (chW rk mn cx cy) (chB cx cy) (chL mn cx cy)) i5) ft) 1) (Nat.le_of_ble_eq_true rfl) rfl (fun ls hl => ?_)
          refine lv_iinc (v := nI (i5 + 1)) (lv' := [(3, .int (nI (i5 + 1))), (2, .int (nI ((cntP (rdG rd (chM (rdF ft st tn kd) (chW rk mn cx cy) (chB cx cy) (chL mn cx cy)) i5) ft) + 1))), (5, .int (GRk (2 * i5 + 1))), (4, .int (GRk (2 * i5))), (0, .ref ro), (1, .int (nI (dn + 1)))]) hx hb dX6_leaveOut_74 hl (k := 3) rfl (nI_add i5 1) (Nat.le_of_ble_eq_true rfl) rfl (fun ls hl => ?_)
          refine lv_goto (tgt := 4) hx hb dX6_leaveOut_77 rfl ?_
          have hl9 := lv_sub hl [0, 1, 4, 5] rfl
          have e9_2 : nI (cntP (rdG rd (chM (rdF ft st tn kd) (chW rk mn cx cy) (chB cx cy) (chL mn cx cy)) (i5 + 1)) ft) = (nI ((cntP (rdG rd (chM (rdF ft st tn kd) (chW rk mn cx cy) (chB cx cy) (chL mn cx cy)) i5) ft) + 1) : Int32) := by first | (rw [cnG_y hMk hlv.1 (rdS_f hSr (show i5 < n by omega))]; done) | (rw [← rdG_n hMn]; first | done | rfl)
          have hl9 : lv_has ls 6 [(3, .int (nI (i5 + 1))), (2, .int (nI (cntP (rdG rd (chM (rdF ft st tn kd) (chW rk mn cx cy) (chB cx cy) (chL mn cx cy)) (i5 + 1)) ft))), (0, .ref ro), (1, .int (nI (dn + 1)))] := by rw [e9_2]; exact hl9
          refine W.widen (k := (i5 + 1)) (n := 6 * (i5 + 1)) (by omega) (by omega) ?_
          exact ih_4 (i5 + 1) GRk Lp1 fp1 own7 nw7 md7 fm7 H locs ls (by first | with_reducible assumption | omega) (by first | with_reducible assumption | omega) (hcI7) (hJ7) hP hD hS hl9
        · have c_6 : ¬ (GRk (2 * i5)).toInt = (GRk (2 * i5 + 1)).toInt := zc_ne rfl rfl c_6
          refine lv_aload_n hx hb dX6_leaveOut_41 rfl (lv_at hl 4 rfl) ?_
          refine lv_iload hx hb dX6_leaveOut_42 (lv_at hl 1 rfl) ?_
          refine lv_iload hx hb dX6_leaveOut_44 (lv_at hl 0 rfl) ?_
          obtain ⟨hPc, hDc, hFc⟩ := zo_sub (wc := [_, _]) hP hD hS hA [0, 2] rfl rfl
          refine zcall (st1 := []) (va_runV (As := [.int (GRk (2 * i5)), .int (GRk (2 * i5 + 1))]) (rest := []) ⟨hx, hb, hml, hown, hts⟩ (k_Roads_unite l dC dI cI cZ cF H.size ro za zw zx zy zg n (GRk (2 * i5)) (GRk (2 * i5 + 1)) GRk (by first | with_reducible assumption | omega)) (csV_139 hts rfl rfl ⟨Nat.le_of_ble_eq_true rfl, Nat.le_of_ble_eq_true rfl⟩) (zPV2 (q0 := 0) (ci := 5) hPc hDc hK3 hXN rfl rfl) rfl rfl hl.1 rfl (lv_room (Nat.le_of_ble_eq_true rfl)) dX6_leaveOut_46 ⟨show i5 ≤ n by omega, show 6 * i5 ≤ 6 * n by omega⟩) hS hFc hFc rfl (fun t H locs ht hB hk1 hS => ?_)
          obtain ⟨GR7, h7, hP1, hD1⟩ := hB
          rw [ht] at hP1
          obtain ⟨hP, hD⟩ := znQ (W2 := [_, _, (oa zg cI 400 GR7)]) hP hD hk1 hFc hP1 hD1 [0, 2] [false, true] [false, true, false] [0, 2] (by decide +kernel) rfl rfl rfl rfl rfl
          clear hk1 hPc hDc hFc hP1 hD1 ht
          refine lv_goto (tgt := 74) hx hb dX6_leaveOut_49 rfl ?_
          have hMn : ¬ (chM (rdF ft st tn kd) (chW rk mn cx cy) (chB cx cy) (chL mn cx cy)) (rd i5) := fun h => absurd (hmq.mp h) (by first | with_reducible assumption | assumption)
          have hJ7 : (shG cI cO L6 f6 e0 FA ea T own6 fe cl la nw6 md6 sp fm6 SA bs dn dn ft ft FT V VX VY tn rk wd tw pa pb wh of9 we kd (gnA (rdG rd (chM (rdF ft st tn kd) (chW rk mn cx cy) (chB cx cy) (chL mn cx cy)) (i5 + 1)) ft 2 st) (gnA (rdG rd (chM (rdF ft st tn kd) (chW rk mn cx cy) (chB cx cy) (chL mn cx cy)) (i5 + 1)) ft (nI (dn + 1)) gb) (gnA (rdG rd (chM (rdF ft st tn kd) (chW rk mn cx cy) (chB cx cy) (chL mn cx cy)) (i5 + 1)) ft (-1 : Int32) it) mn cx cy) ∧ (mdA dn ft FT la nw6 md6 fm6 V kd (gnA (rdG rd (chM (rdF ft st tn kd) (chW rk mn cx cy) (chB cx cy) (chL mn cx cy)) (i5 + 1)) ft 2 st) (gnA (rdG rd (chM (rdF ft st tn kd) (chW rk mn cx cy) (chB cx cy) (chL mn cx cy)) (i5 + 1)) ft (nI (dn + 1)) gb) (gnA (rdG rd (chM (rdF ft st tn kd) (chW rk mn cx cy) (chB cx cy) (chL mn cx cy)) (i5 + 1)) ft (-1 : Int32) it)) ∧ (∀ q, (∀ k, k < (i5 + 1) → rd k ≠ q) → md6 q = 0) ∧ (loG cI L6 f6 own6 fe nw6 md6 la bs dn dn ft ft FT V (V dn)) := (by rw [← rdG_n hMn]; exact ⟨hJ6.1, hJ6.2.1, fun q hq => hJ6.2.2.1 q (fun k hk => hq k (by omega)), hJ6.2.2.2⟩)
          have hcI7 := chO_s hcI (by omega) (hen i5 (by omega)).1 (hen i5 (by omega)).2 h7
          refine lv_iinc (v := nI (i5 + 1)) (lv' := [(3, .int (nI (i5 + 1))), (5, .int (GRk (2 * i5 + 1))), (4, .int (GRk (2 * i5))), (2, .int (nI (cntP (rdG rd (chM (rdF ft st tn kd) (chW rk mn cx cy) (chB cx cy) (chL mn cx cy)) i5) ft))), (0, .ref ro), (1, .int (nI (dn + 1)))]) hx hb dX6_leaveOut_74 hl (k := 2) rfl (nI_add i5 1) (Nat.le_of_ble_eq_true rfl) rfl (fun ls hl => ?_)
          refine lv_goto (tgt := 4) hx hb dX6_leaveOut_77 rfl ?_
          have hl9 := lv_sub hl [0, 3, 4, 5] rfl
          have e9_2 : nI (cntP (rdG rd (chM (rdF ft st tn kd) (chW rk mn cx cy) (chB cx cy) (chL mn cx cy)) (i5 + 1)) ft) = (nI (cntP (rdG rd (chM (rdF ft st tn kd) (chW rk mn cx cy) (chB cx cy) (chL mn cx cy)) i5) ft) : Int32) := by first | (rw [cnG_y hMk hlv.1 (rdS_f hSr (show i5 < n by omega))]; done) | (rw [← rdG_n hMn]; first | done | rfl)
          have hl9 : lv_has ls 6 [(3, .int (nI (i5 + 1))), (2, .int (nI (cntP (rdG rd (chM (rdF ft st tn kd) (chW rk mn cx cy) (chB cx cy) (chL mn cx cy)) (i5 + 1)) ft))), (0, .ref ro), (1, .int (nI (dn + 1)))] := by rw [e9_2]; exact hl9
          refine W.widen (k := (i5 + 1)) (n := 6 * (i5 + 1)) (by omega) (by omega) ?_
          exact ih_4 (i5 + 1) GR7 L6 f6 own6 nw6 md6 fm6 H locs ls (by first | with_reducible assumption | omega) (by first | with_reducible assumption | omega) (hcI7) (hJ7) hP hD hS hl9
  have e9_2 : nI (cntP (rdG rd (chM (rdF ft st tn kd) (chW rk mn cx cy) (chB cx cy) (chL mn cx cy)) 0) ft) = (0 : Int32) := by rw [cnG_0]; rfl
  have hl9 : lv_has ls 6 [(3, .int (nI 0)), (2, .int (nI (cntP (rdG rd (chM (rdF ft st tn kd) (chW rk mn cx cy) (chB cx cy) (chL mn cx cy)) 0) ft))), (0, .ref ro), (1, .int (nI (dn + 1)))] := by rw [e9_2]; exact lv_sub hl [0, 1, 2, 3] rfl
  refine W.widen (k := 0) (n := 6 * 0) (by omega) (by omega) ?_
  exact hl_4 _ 0 GR L f own (la dn) (fun _ => 0) (fun _ => Value.null) s.heap [] ls (Nat.lt_succ_self _) (by first | with_reducible assumption | omega) (chO_0 (grI_chI (by first | with_reducible assumption | omega) hgr)) (⟨by rw [gnG_0, gnG_0, gnG_0]; exact hG, by rw [gnG_0, gnG_0, gnG_0]; exact hM, fun _ _ => rfl, hO⟩) hP hD hS hl9
end
section
set_option maxHeartbeats 4000000 in
set_option maxRecDepth 100000 in
theorem k_choose_r (l : Launch) (dC : Nat → ClassId) (dI : Nat → Nat → Nat) (cI cZ cF : ClassId) (sz : Nat) (cO : ClassId) (e0 : Nat) (mi : Nat) (x : Nat) (sh : Nat) (lw : Nat) (ro : Nat) (bq : Nat) (bp : Nat) (dq : Nat) (dp : Nat) (lv : Nat) (sl : Nat) (sd : Int32) (ul : Int32) (su : Int32) (ea : Nat) (mc9 : Int32) (fa : Nat) (FA : Nat → Option Nat) (bs : Nat) (dn : Nat) (T : Nat) (ft : Nat) (FT : Nat → Nat) (V : Nat → Nat → Nat → Int32) (VX : Nat → Nat → Int32) (VY : Nat → Nat → Int32) (tn : Nat → Int32) (rk : Nat → Int32) (wd : Nat → Int32) (tw : Nat → Int32) (pa : Nat → Int32) (pb : Nat → Int32) (wh : Nat → Int32) (of9 : Nat → Int32) (we : Nat → Int32) (kd : Nat → Int32) (st : Nat → Int32) (gb : Nat → Int32) (it : Nat → Int32) (mn : Nat → Int32) (cx : Nat → Int32) (cy : Nat → Int32) (L : List Nat) (f : Nat → va_E) (za : Nat) (zw : Nat) (zx : Nat) (zy : Nat) (zg : Nat) (nv : Int32) (RA : Nat → Option Nat) (WT : Nat → Int32) (EX : Nat → Int32) (EY : Nat → Int32) (GR : Nat → Int32) (hB : shB cI cO L f e0 FA ea bs dn T ft FT V VX VY tn rk wd tw pa pb wh of9 we kd st gb it mn cx cy) (hwf : ∀ q, lvF ft st tn q → wfM mn cx cy q) (hkn : okN ft st tn kd mn) (hrk : ∀ q, lvF ft st tn q → 0 ≤ (rk q).toInt ∧ (rk q).toInt ≤ 9) (hz : cntP (chM (rdF ft st tn kd) (chW rk mn cx cy) (chB cx cy) (chL mn cx cy)) ft = 0) : zML l yX10_choose cX10_choose 2 (some .int) ({ frames := 3, cells := 0, slots := 0, locals := 67 } : Room) [.ref x] (dC, dI) (zTyO cI cZ cF cO) e0 mi ([(oc8 x (.ref sh) (.ref lw) (.ref ro) (.ref bq) (.ref bp) (.ref dq) (.ref dp) (.ref lv) (.ref sl) (nI dn) sd ul su), (oc10 sl mc9 (.ref ea) (nI T)), (oc5 ro (.ref za) (.ref zw) (.ref zx) (.ref zy) (.ref zg) nv), (oq za cF 200 RA), (oa zw cI 200 WT), (oa zx cI 400 EX), (oa zy cI 400 EY), (oa zg cI 400 GR), (oc7 sh (.ref fa) (nI ft)), (oq fa cF 200 FA)] ++ va_pl L f) sz (some (.int (-1))) (fun A t => ∃ (n1 : Nat), ∃ (RA1 : Nat → Option Nat), ∃ (WT1 : Nat → Int32), ∃ (EX1 : Nat → Int32), ∃ (EY1 : Nat → Int32), ∃ (GR1 : Nat → Int32), zPD (dC, dI) classes A ([(oc8 x (.ref sh) (.ref lw) (.ref ro) (.ref bq) (.ref bp) (.ref dq) (.ref dp) (.ref lv) (.ref sl) (nI dn) sd ul 8), (oc10 sl mc9 (.ref ea) (nI T)), (oc5 ro (.ref za) (.ref zw) (.ref zx) (.ref zy) (.ref zg) (nI n1)), (oq za cF 200 RA1), (oa zw cI 200 WT1), (oa zx cI 400 EX1), (oa zy cI 400 EY1), (oa zg cI 400 GR1), (oc7 sh (.ref fa) (nI ft)), (oq fa cF 200 FA)] ++ va_pl L f) t.heap) 0 0 := by
  refine zInL (own := "ScaleShop") (loc := [(0, .ref x)]) rfl rfl rfl rfl (fun p e s m below meth c hx hb hr hts hown hlocks hml hnm9 A hA hS hP hD hK hXL hXN hK3 Q9 hQ9 ls hl => ?_)
  have hva9 := shB_va hB
  obtain ⟨own, fe, cl, la, sp, SA, hG9, hH9, hft9, hO9⟩ := hB
  obtain ⟨hG, hM, hdT, hT5, hO⟩ := M_0 hG9 hH9 hft9 hO9
  have h200 : ft ≤ 200 := hG.2.2.2.2.2.1.2.2.2.2.2
  have hFA9 := hG.2.2.2.2.2.2
  have hcbm := cntP_b (chM (rdF ft st tn kd) (chW rk mn cx cy) (chB cx cy) (chL mn cx cy)) ft
  refine lv_aload_n hx hb dX10_choose_0 rfl (lv_at hl 0 rfl) ?_
  refine va_get (D := (dC, dI)) (ci := 8) (v := .ref ro) (C := RX10) (T := TX10) (N := 13) hx hb hts inX10 hown hK hP 0 rfl rfl 2 (Nat.le_of_ble_eq_true rfl) (hts _ mw_311) (fun _ h9 => h9) rfl dX10_choose_1 ?_
  refine lv_aload_n hx hb dX10_choose_4 rfl (lv_at hl 0 rfl) ?_
  refine va_get (D := (dC, dI)) (ci := 8) (v := .ref sh) (C := RX10) (T := TX10) (N := 13) hx hb hts inX10 hown hK hP 0 rfl rfl 0 (Nat.le_of_ble_eq_true rfl) (hts _ mw_309) (fun _ h9 => h9) rfl dX10_choose_5 ?_
  obtain ⟨hPc, hDc, hFc⟩ := zo_part (cx := [_, _, _, _, _, _, _, _]) hP hD hS hA [2, 3, 4, 5, 6, 7, 8, 9] (by decide +kernel) rfl
  refine zcall (st1 := []) (va_runV (As := [.ref sh]) (rest := []) ⟨hx, hb, hml, hown, hts⟩ (k_Roads_gather l dC dI cI cZ cF s.heap.size ro sh za zw zx zy zg nv fa ft FA RA WT EX EY GR L f kd st tn mn cx cy rk wd tw pa pb gb it own fe cl (la dn) (fun _ => 0) (fun _ => Value.null) (by first | with_reducible assumption | omega) (hG.1) (hG.2.1) (hFA9) (hwf) (hkn) (hrk) (hva9)) (csV_141 hts rfl rfl ⟨Nat.le_of_ble_eq_true rfl, Nat.le_of_ble_eq_true rfl⟩) (zPV2 (q0 := 0) (ci := 5) hPc hDc hK3 hXN rfl rfl) rfl rfl hl.1 rfl (lv_room (Nat.le_of_ble_eq_true rfl)) dX10_choose_8 ⟨Nat.le_of_ble_eq_true rfl, Nat.le_of_ble_eq_true rfl⟩) hS hFc hFc rfl (fun t H locs ht hB hk1 hS => ?_)
  refine ex7 hB (fun n7 rd7 RA7 WT7 EX7 EY7 GR7 hB0 => ?_)
  clear hB
  obtain ⟨o1, o2, o3, o4, o5, hP1, hD1⟩ := hB0
  rw [ht] at hP1
  obtain ⟨hP, hD⟩ := znP (W2 := [_, _, (oc5 ro (.ref za) (.ref zw) (.ref zx) (.ref zy) (.ref zg) (nI n7)), (oq za cF 200 RA7), (oa zw cI 200 WT7), (oa zx cI 400 EX7), (oa zy cI 400 EY7), (oa zg cI 400 GR7), _, _]) hP hD hk1 hFc hP1 hD1 zl_103 [true, true] zl_102 zl_103 (by decide +kernel) rfl rfl rfl rfl rfl
  clear hk1 hPc hDc hFc hP1 hD1 ht
  refine lv_aload_n hx hb dX10_choose_11 rfl (lv_at hl 0 rfl) ?_
  refine va_get (D := (dC, dI)) (ci := 8) (v := .ref ro) (C := RX10) (T := TX10) (N := 13) hx hb hts inX10 hown hK hP 0 rfl rfl 2 (Nat.le_of_ble_eq_true rfl) (hts _ mw_311) (fun _ h9 => h9) rfl dX10_choose_12 ?_
  refine lv_aload_n hx hb dX10_choose_15 rfl (lv_at hl 0 rfl) ?_
  refine va_get (D := (dC, dI)) (ci := 8) (v := .int (nI dn)) (C := RX10) (T := TX10) (N := 13) hx hb hts inX10 hown hK hP 0 rfl rfl 9 (Nat.le_of_ble_eq_true rfl) (hts _ mw_318) (fun _ h9 => h9) rfl dX10_choose_16 ?_
  refine lv_iconst (v := 1) hx hb dX10_choose_19 rfl ?_
  refine lv_iadd hx hb dX10_choose_20 ?_
  refine zz_i (v := nI (dn + 1)) (nI_add dn 1) ?_
  obtain ⟨hPc, hDc, hFc⟩ := zo_sub (wc := [_, _, _]) hP hD hS hA [2, 3, 7] rfl rfl
  refine zcall (st1 := [.int 0]) (va_runV (As := [.int (nI (dn + 1))]) (rest := []) ⟨hx, hb, hml, hown, hts⟩ (k_Roads_leaveOut_0 l dC dI cI cZ cF H.size ro za zw zx zy zg n7 RA7 GR7 EX7 EY7 rd7 ft st tn kd rk mn cx cy (nI (dn + 1)) (o1) (by first | with_reducible assumption | omega) (o2) (o4) (o5) (fun q h => by have h9 := cntP_lt (P := (chM (rdF ft st tn kd) (chW rk mn cx cy) (chB cx cy) (chL mn cx cy))) (Q := fun _ => False) (fun j h => h.elim) h.1.1.1 h (fun h => h); omega)) (csV_142 hts rfl rfl ⟨Nat.le_of_ble_eq_true rfl, Nat.le_of_ble_eq_true rfl⟩) (zPV2 (q0 := 0) (ci := 5) hPc hDc hK3 hXN rfl rfl) rfl rfl hl.1 rfl (lv_room (Nat.le_of_ble_eq_true rfl)) dX10_choose_21 ⟨Nat.le_of_ble_eq_true rfl, Nat.le_of_ble_eq_true rfl⟩) hS hFc hFc rfl (fun t H locs ht hB hk1 hS => ?_)
  obtain ⟨q_1, hP1, hD1⟩ := hB
  rw [ht] at hP1
  obtain ⟨hP, hD⟩ := znQ (W2 := [_, _, _, _, _, _, _, (oa zg cI 400 q_1), _, _]) hP hD hk1 hFc hP1 hD1 [2, 3, 7] zl_111 zl_111 [2, 3, 7] (by decide +kernel) rfl rfl rfl rfl rfl
  clear hk1 hPc hDc hFc hP1 hD1 ht
  refine lv_istore_n (lv' := [(1, .int 0), (0, .ref x)]) hx hb dX10_choose_24 rfl hl (Nat.le_of_ble_eq_true rfl) rfl (fun ls hl => ?_)
  refine lv_iload_n hx hb dX10_choose_25 rfl (lv_at hl 0 rfl) ?_
  refine lv_if_ne (tgt := 36) hx hb dX10_choose_26 rfl (fun c_2 => ?_) (fun c_2 => ?_)
  · exact absurd (by decide) c_2
  · refine lv_aload_n hx hb dX10_choose_29 rfl (lv_at hl 1 rfl) ?_
    refine lv_bipush (v := 8) hx hb dX10_choose_30 rfl ?_
    obtain ⟨hPc, hDc, hFc⟩ := zo_sub (wc := [_]) hP hD hS hA [0] rfl rfl
    refine zcall (st1 := [.int (-1)]) (va_runV (As := [.int 8]) (rest := []) ⟨hx, hb, hml, hown, hts⟩ (k_refuse_8 l dC dI cI cZ cF H.size x sh lw ro bq bp dq dp lv sl sd ul su (nI dn) ) (csV_95 hts rfl rfl ⟨Nat.le_of_ble_eq_true rfl, Nat.le_of_ble_eq_true rfl⟩) (zPV2 (q0 := 0) (ci := 8) hPc hDc hK3 hXN rfl rfl) rfl rfl hl.1 rfl (lv_room (Nat.le_of_ble_eq_true rfl)) dX10_choose_32 ⟨Nat.le_of_ble_eq_true rfl, Nat.le_of_ble_eq_true rfl⟩) hS hFc hFc rfl (fun t H locs ht hB hk1 hS => ?_)
    obtain ⟨hP1, hD1⟩ := hB
    rw [ht] at hP1
    obtain ⟨hP, hD⟩ := znQ (W2 := [(oc8 x (.ref sh) (.ref lw) (.ref ro) (.ref bq) (.ref bp) (.ref dq) (.ref dp) (.ref lv) (.ref sl) (nI dn) sd ul 8), _, _, _, _, _, _, _, _, _]) hP hD hk1 hFc hP1 hD1 [0] zl_112 zl_112 [0] (by decide +kernel) rfl rfl rfl rfl rfl
    clear hk1 hPc hDc hFc hP1 hD1 ht
    obtain ⟨hP9, hD9⟩ := zu_part (cx := [_, _, _, _, _, _, _, _, _, _]) hP hD [true, true, true, true, true, true, true, true, true, true] rfl rfl
    rw [hQ9]
    exact W.iret (v := (-1)) hx hb hr (fun t ht hW => ⟨⟨rfl, n7, RA7, WT7, EX7, EY7, q_1, by rw [ht]; exact hP9, hD9⟩, hS.F ht⟩) hS.2.2 dX10_choose_35
set_option maxHeartbeats 4000000 in
set_option maxRecDepth 100000 in
theorem k_choose_y (l : Launch) (dC : Nat → ClassId) (dI : Nat → Nat → Nat) (cI cZ cF : ClassId) (sz : Nat) (cO : ClassId) (e0 : Nat) (mi : Nat) (x : Nat) (sh : Nat) (lw : Nat) (ro : Nat) (bq : Nat) (bp : Nat) (dq : Nat) (dp : Nat) (lv : Nat) (sl : Nat) (sd : Int32) (ul : Int32) (su : Int32) (ea : Nat) (mc9 : Int32) (fa : Nat) (FA : Nat → Option Nat) (bs : Nat) (dn : Nat) (T : Nat) (ft : Nat) (FT : Nat → Nat) (V : Nat → Nat → Nat → Int32) (VX : Nat → Nat → Int32) (VY : Nat → Nat → Int32) (tn : Nat → Int32) (rk : Nat → Int32) (wd : Nat → Int32) (tw : Nat → Int32) (pa : Nat → Int32) (pb : Nat → Int32) (wh : Nat → Int32) (of9 : Nat → Int32) (we : Nat → Int32) (kd : Nat → Int32) (st : Nat → Int32) (gb : Nat → Int32) (it : Nat → Int32) (mn : Nat → Int32) (cx : Nat → Int32) (cy : Nat → Int32) (L : List Nat) (f : Nat → va_E) (za : Nat) (zw : Nat) (zx : Nat) (zy : Nat) (zg : Nat) (nv : Int32) (RA : Nat → Option Nat) (WT : Nat → Int32) (EX : Nat → Int32) (EY : Nat → Int32) (GR : Nat → Int32) (hB : shB cI cO L f e0 FA ea bs dn T ft FT V VX VY tn rk wd tw pa pb wh of9 we kd st gb it mn cx cy) (hd5 : dn + 1 ≤ 512) (hwf : ∀ q, lvF ft st tn q → wfM mn cx cy q) (hkn : okN ft st tn kd mn) (hrk : ∀ q, lvF ft st tn q → 0 ≤ (rk q).toInt ∧ (rk q).toInt ≤ 9) (hit : ∀ q, q < ft → (st q).toInt = 1 → it q = -1) (hz : 0 < cntP (chM (rdF ft st tn kd) (chW rk mn cx cy) (chB cx cy) (chL mn cx cy)) ft) : zML l yX10_choose cX10_choose 2 (some .int) ({ frames := 8, cells := 2 * ft + 2, slots := 10 * ft + 805, locals := 182 } : Room) [.ref x] (dC, dI) (zTyO cI cZ cF cO) e0 mi ([(oc8 x (.ref sh) (.ref lw) (.ref ro) (.ref bq) (.ref bp) (.ref dq) (.ref dp) (.ref lv) (.ref sl) (nI dn) sd ul su), (oc10 sl mc9 (.ref ea) (nI T)), (oc5 ro (.ref za) (.ref zw) (.ref zx) (.ref zy) (.ref zg) nv), (oq za cF 200 RA), (oa zw cI 200 WT), (oa zx cI 400 EX), (oa zy cI 400 EY), (oa zg cI 400 GR), (oc7 sh (.ref fa) (nI ft)), (oq fa cF 200 FA)] ++ va_pl L f) sz (some (.int (nI (cntP (chM (rdF ft st tn kd) (chW rk mn cx cy) (chB cx cy) (chL mn cx cy)) ft)))) (fun A t => ∃ (mc1 : Int32), ∃ (L1 : List Nat), ∃ (f1 : Nat → va_E), ∃ (ea1 : Nat), ∃ (n1 : Nat), ∃ (RA1 : Nat → Option Nat), ∃ (WT1 : Nat → Int32), ∃ (EX1 : Nat → Int32), ∃ (EY1 : Nat → Int32), ∃ (GR1 : Nat → Int32), (shB cI cO L1 f1 e0 FA ea1 bs (dn + 1) (dn + 1) ft (upN FT (dn + 1) ft) (upN V (dn + 1) (vC (V dn) kd (gnA (chM (rdF ft st tn kd) (chW rk mn cx cy) (chB cx cy) (chL mn cx cy)) ft 2 st) (gnA (chM (rdF ft st tn kd) (chW rk mn cx cy) (chB cx cy) (chL mn cx cy)) ft (nI (dn + 1)) gb) (gnA (chM (rdF ft st tn kd) (chW rk mn cx cy) (chB cx cy) (chL mn cx cy)) ft (-1 : Int32) it) mn)) (upN VX (dn + 1) cx) (upN VY (dn + 1) cy) tn rk wd tw pa pb (upd wh (dn + 1) (9 : Int32)) (upd of9 (dn + 1) (-1 : Int32)) (upd we (dn + 1) (nI (cntP (chM (rdF ft st tn kd) (chW rk mn cx cy) (chB cx cy) (chL mn cx cy)) ft))) kd (gnA (chM (rdF ft st tn kd) (chW rk mn cx cy) (chB cx cy) (chL mn cx cy)) ft 2 st) (gnA (chM (rdF ft st tn kd) (chW rk mn cx cy) (chB cx cy) (chL mn cx cy)) ft (nI (dn + 1)) gb) (gnA (chM (rdF ft st tn kd) (chW rk mn cx cy) (chB cx cy) (chL mn cx cy)) ft (-1 : Int32) it) mn cx cy) ∧ zPD (dC, dI) classes A ([(oc8 x (.ref sh) (.ref lw) (.ref ro) (.ref bq) (.ref bp) (.ref dq) (.ref dp) (.ref lv) (.ref sl) (nI (dn + 1)) sd ul 0), (oc10 sl mc1 (.ref ea1) (nI (dn + 1))), (oc5 ro (.ref za) (.ref zw) (.ref zx) (.ref zy) (.ref zg) (nI n1)), (oq za cF 200 RA1), (oa zw cI 200 WT1), (oa zx cI 400 EX1), (oa zy cI 400 EY1), (oa zg cI 400 GR1), (oc7 sh (.ref fa) (nI ft)), (oq fa cF 200 FA)] ++ va_pl L1 f1) t.heap) (2 * ft + 2) (10 * ft + 805) := by
  refine zInL (own := "ScaleShop") (loc := [(0, .ref x)]) rfl rfl rfl rfl (fun p e s m below meth c hx hb hr hts hown hlocks hml hnm9 A hA hS hP hD hK hXL hXN hK3 Q9 hQ9 ls hl => ?_)
  have hva9 := shB_va hB
  obtain ⟨own, fe, cl, la, sp, SA, hG9, hH9, hft9, hO9⟩ := hB
  obtain ⟨hG, hM, hdT, hT5, hO⟩ := M_0 hG9 hH9 hft9 hO9
  have h200 : ft ≤ 200 := hG.2.2.2.2.2.1.2.2.2.2.2
  have hFA9 := hG.2.2.2.2.2.2
  have hcbm := cntP_b (chM (rdF ft st tn kd) (chW rk mn cx cy) (chB cx cy) (chL mn cx cy)) ft
  refine lv_aload_n hx hb dX10_choose_0 rfl (lv_at hl 0 rfl) ?_
  refine va_get (D := (dC, dI)) (ci := 8) (v := .ref ro) (C := RX10) (T := TX10) (N := 13) hx hb hts inX10 hown hK hP 0 rfl rfl 2 (Nat.le_of_ble_eq_true rfl) (hts _ mw_311) (fun _ h9 => h9) rfl dX10_choose_1 ?_
  refine lv_aload_n hx hb dX10_choose_4 rfl (lv_at hl 0 rfl) ?_
  refine va_get (D := (dC, dI)) (ci := 8) (v := .ref sh) (C := RX10) (T := TX10) (N := 13) hx hb hts inX10 hown hK hP 0 rfl rfl 0 (Nat.le_of_ble_eq_true rfl) (hts _ mw_309) (fun _ h9 => h9) rfl dX10_choose_5 ?_
  obtain ⟨hPc, hDc, hFc⟩ := zo_part (cx := [_, _, _, _, _, _, _, _]) hP hD hS hA [2, 3, 4, 5, 6, 7, 8, 9] (by decide +kernel) rfl
  refine zcall (st1 := []) (va_runV (As := [.ref sh]) (rest := []) ⟨hx, hb, hml, hown, hts⟩ (k_Roads_gather l dC dI cI cZ cF s.heap.size ro sh za zw zx zy zg nv fa ft FA RA WT EX EY GR L f kd st tn mn cx cy rk wd tw pa pb gb it own fe cl (la dn) (fun _ => 0) (fun _ => Value.null) (by first | with_reducible assumption | omega) (hG.1) (hG.2.1) (hFA9) (hwf) (hkn) (hrk) (hva9)) (csV_141 hts rfl rfl ⟨Nat.le_of_ble_eq_true rfl, Nat.le_of_ble_eq_true rfl⟩) (zPV2 (q0 := 0) (ci := 5) hPc hDc hK3 hXN rfl rfl) rfl rfl hl.1 rfl (lv_room (Nat.le_of_ble_eq_true rfl)) dX10_choose_8 ⟨Nat.zero_le _, Nat.zero_le _⟩) hS hFc hFc rfl (fun t H locs ht hB hk1 hS => ?_)
  refine ex7 hB (fun n7 rd7 RA7 WT7 EX7 EY7 GR7 hB0 => ?_)
  clear hB
  obtain ⟨o1, o2, o3, o4, o5, hP1, hD1⟩ := hB0
  rw [ht] at hP1
  obtain ⟨hP, hD⟩ := znP (W2 := [_, _, (oc5 ro (.ref za) (.ref zw) (.ref zx) (.ref zy) (.ref zg) (nI n7)), (oq za cF 200 RA7), (oa zw cI 200 WT7), (oa zx cI 400 EX7), (oa zy cI 400 EY7), (oa zg cI 400 GR7), _, _]) hP hD hk1 hFc hP1 hD1 zl_103 [true, true] zl_102 zl_103 (by decide +kernel) rfl rfl rfl rfl rfl
  clear hk1 hPc hDc hFc hP1 hD1 ht
  refine lv_aload_n hx hb dX10_choose_11 rfl (lv_at hl 0 rfl) ?_
  refine va_get (D := (dC, dI)) (ci := 8) (v := .ref ro) (C := RX10) (T := TX10) (N := 13) hx hb hts inX10 hown hK hP 0 rfl rfl 2 (Nat.le_of_ble_eq_true rfl) (hts _ mw_311) (fun _ h9 => h9) rfl dX10_choose_12 ?_
  refine lv_aload_n hx hb dX10_choose_15 rfl (lv_at hl 0 rfl) ?_
  refine va_get (D := (dC, dI)) (ci := 8) (v := .int (nI dn)) (C := RX10) (T := TX10) (N := 13) hx hb hts inX10 hown hK hP 0 rfl rfl 9 (Nat.le_of_ble_eq_true rfl) (hts _ mw_318) (fun _ h9 => h9) rfl dX10_choose_16 ?_
  refine lv_iconst (v := 1) hx hb dX10_choose_19 rfl ?_
  refine lv_iadd hx hb dX10_choose_20 ?_
  refine zz_i (v := nI (dn + 1)) (nI_add dn 1) ?_
  obtain ⟨hPc, hDc, hFc⟩ := zo_part (cx := [_, _, _]) hP hD hS hA [2, 3, 7] rfl rfl
  refine zcall (st1 := [.int (nI (cntP (chM (rdF ft st tn kd) (chW rk mn cx cy) (chB cx cy) (chL mn cx cy)) ft))]) (va_runV (As := [.int (nI (dn + 1))]) (rest := []) ⟨hx, hb, hml, hown, hts⟩ (k_Roads_leaveOut_y l dC dI cI cZ cF H.size cO e0 mi ro za zw zx zy zg n7 RA7 GR7 EX7 EY7 rd7 FA ea bs dn T ft FT V VX VY tn rk wd tw pa pb wh of9 we kd st gb it mn cx cy L f own fe cl la sp SA (o1) (by first | with_reducible assumption | omega) (o2) (o4) (o5) (o3) (hG) (hM) (hO) (hft9) (hit)) (csV_142 hts rfl rfl ⟨Nat.le_of_ble_eq_true rfl, Nat.le_of_ble_eq_true rfl⟩) (zPVL (q0 := 0) (ci := 5) hPc hDc hK hXL hS hFc rfl rfl) rfl rfl hl.1 rfl (lv_room (Nat.le_of_ble_eq_true rfl)) dX10_choose_21 ⟨show (0 + n7) ≤ 2 * ft + 2 by omega, show (0 + (6 * n7)) ≤ 10 * ft + 805 by omega⟩) hS hFc hFc rfl (fun t H locs ht hB hk1 hS => ?_)
  refine ex7 hB (fun L6 f6 own6 nw6 md6 fm6 GR8 hB0 => ?_)
  clear hB
  obtain ⟨hG1, hM1, hO1, hP1, hD1⟩ := hB0
  rw [ht] at hP1
  obtain ⟨hP, hD⟩ := znP (W2 := [_, _, _, _, _, _, _, (oa zg cI 400 GR8), _, _]) hP hD hk1 hFc hP1 hD1 [2, 3, 7] zl_111 zl_111 [2, 3, 7] (by decide +kernel) rfl rfl rfl rfl rfl
  clear hk1 hPc hDc hFc hP1 hD1 ht
  refine lv_istore_n (lv' := [(1, .int (nI (cntP (chM (rdF ft st tn kd) (chW rk mn cx cy) (chB cx cy) (chL mn cx cy)) ft))), (0, .ref x)]) hx hb dX10_choose_24 rfl hl (Nat.le_of_ble_eq_true rfl) rfl (fun ls hl => ?_)
  refine lv_iload_n hx hb dX10_choose_25 rfl (lv_at hl 0 rfl) ?_
  have b9_2 : zlt ((cntP (chM (rdF ft st tn kd) (chW rk mn cx cy) (chB cx cy) (chL mn cx cy)) ft)) := show (cntP (chM (rdF ft st tn kd) (chW rk mn cx cy) (chB cx cy) (chL mn cx cy)) ft) < 2147483648 by omega
  refine lv_if_ne (tgt := 36) hx hb dX10_choose_26 rfl (fun c_1 => ?_) (fun c_1 => ?_)
  · have c_1 : ¬ ((cntP (chM (rdF ft st tn kd) (chW rk mn cx cy) (chB cx cy) (chL mn cx cy)) ft : Nat) : Int) = 0 := zc_ne (nI_toInt b9_2) rfl c_1
    refine lv_aload_n hx hb dX10_choose_36 rfl (lv_at hl 1 rfl) ?_
    refine lv_bipush (v := 9) hx hb dX10_choose_37 rfl ?_
    refine lv_iconst (v := (-1)) hx hb dX10_choose_39 rfl ?_
    refine lv_iload_n hx hb dX10_choose_40 rfl (lv_at hl 0 rfl) ?_
    refine lv_null hx hb dX10_choose_41 ?_
    obtain ⟨hPc, hDc, hFc⟩ := zo_part (cx := [_, _, _, _]) hP hD hS hA [0, 1, 8, 9] (by decide +kernel) rfl
    refine zcall (st1 := [.int 1]) (va_runV (As := [.int 9, .int (-1), .int (nI (cntP (chM (rdF ft st tn kd) (chW rk mn cx cy) (chB cx cy) (chL mn cx cy)) ft)), .null]) (rest := []) ⟨hx, hb, hml, hown, hts⟩ (k_book_n l dC dI cI cZ cF H.size cO e0 mi x sh lw ro bq bp dq dp lv sl sd ul su sl ea T mc9 fa FA own6 fe cl la nw6 md6 sp fm6 SA bs dn ft FT V VX VY (V dn) tn rk wd tw pa pb wh of9 we kd (gnA (chM (rdF ft st tn kd) (chW rk mn cx cy) (chB cx cy) (chL mn cx cy)) ft 2 st) (gnA (chM (rdF ft st tn kd) (chW rk mn cx cy) (chB cx cy) (chL mn cx cy)) ft (nI (dn + 1)) gb) (gnA (chM (rdF ft st tn kd) (chW rk mn cx cy) (chB cx cy) (chL mn cx cy)) ft (-1 : Int32) it) mn cx cy 9 (-1) (nI (cntP (chM (rdF ft st tn kd) (chW rk mn cx cy) (chB cx cy) (chL mn cx cy)) ft)) L6 f6 (hG1) (hM1) (hO1) (hdT) (hT5) (by first | with_reducible assumption | omega) (fun q h1 h2 => by omega) (hft9)) (csV_101 hts rfl rfl ⟨Nat.le_of_ble_eq_true rfl, Nat.le_of_ble_eq_true rfl⟩) (zPVL (q0 := 0) (ci := 8) hPc hDc hK hXL hS hFc rfl rfl) rfl rfl hl.1 rfl (lv_room (Nat.le_of_ble_eq_true rfl)) dX10_choose_42 ⟨show ((0 + n7) + (ft + 2)) ≤ 2 * ft + 2 by omega, show ((0 + (6 * n7)) + (4 * ft + 805)) ≤ 10 * ft + 805 by omega⟩) hS hFc hFc rfl (fun t H locs ht hB hk1 hS => ?_)
    obtain ⟨mc6, L8, f8, ea6, hB6, hP1, hD1⟩ := hB
    rw [ht] at hP1
    obtain ⟨hP, hD⟩ := znP (W2 := [(oc8 x (.ref sh) (.ref lw) (.ref ro) (.ref bq) (.ref bp) (.ref dq) (.ref dp) (.ref lv) (.ref sl) (nI (dn + 1)) sd ul 0), (oc10 sl mc6 (.ref ea6) (nI (dn + 1))), _, _, _, _, _, _, _, _]) hP hD hk1 hFc hP1 hD1 [0, 1, 8, 9] zl_113 zl_114 [0, 1, 8, 9] (by decide +kernel) rfl rfl rfl rfl rfl
    clear hk1 hPc hDc hFc hP1 hD1 ht
    refine lv_pop hx hb dX10_choose_45 rfl ?_
    refine lv_iload_n hx hb dX10_choose_46 rfl (lv_at hl 0 rfl) ?_
    obtain ⟨hP9, hD9⟩ := zu_part (cx := [_, _, _, _, _, _, _, _, _, _]) hP hD [true, true, true, true, true, true, true, true, true, true] rfl rfl
    refine W.widen (k := 2 * ft + 2) (n := 10 * ft + 805) (by omega) (by omega) ?_
    rw [hQ9]
    exact W.iret (v := nI (cntP (chM (rdF ft st tn kd) (chW rk mn cx cy) (chB cx cy) (chL mn cx cy)) ft)) hx hb hr (fun t ht hW => ⟨⟨rfl, mc6, L8, f8, ea6, n7, RA7, WT7, EX7, EY7, GR8, (hB6), by rw [ht]; exact hP9, hD9⟩, hS.F ht⟩) hS.2.2 dX10_choose_47
  · have c_1 : ((cntP (chM (rdF ft st tn kd) (chW rk mn cx cy) (chB cx cy) (chL mn cx cy)) ft : Nat) : Int) = 0 := zc_eq (nI_toInt b9_2) rfl c_1
    exfalso; omega
end
section
set_option maxHeartbeats 4000000 in
set_option maxRecDepth 100000 in
theorem k_shiftt_y (l : Launch) (dC : Nat → ClassId) (dI : Nat → Nat → Nat) (cI cZ cF : ClassId) (sz : Nat) (cO : ClassId) (e0 : Nat) (mi : Nat) (x : Nat) (sh : Nat) (lw : Nat) (ro : Nat) (bq : Nat) (bp : Nat) (dq : Nat) (dp : Nat) (lv : Nat) (sl : Nat) (sd : Int32) (ul : Int32) (su : Int32) (ea : Nat) (mc9 : Int32) (fa : Nat) (FA : Nat → Option Nat) (bs : Nat) (dn : Nat) (T : Nat) (ft : Nat) (FT : Nat → Nat) (V : Nat → Nat → Nat → Int32) (VX : Nat → Nat → Int32) (VY : Nat → Nat → Int32) (tn : Nat → Int32) (rk : Nat → Int32) (wd : Nat → Int32) (tw : Nat → Int32) (pa : Nat → Int32) (pb : Nat → Int32) (wh : Nat → Int32) (of9 : Nat → Int32) (we : Nat → Int32) (kd : Nat → Int32) (st : Nat → Int32) (gb : Nat → Int32) (it : Nat → Int32) (mn : Nat → Int32) (cx : Nat → Int32) (cy : Nat → Int32) (L : List Nat) (f : Nat → va_E) (f0 : Nat) (dr : Nat) (tg : Nat) (wy : Nat) (br : Nat) (bo : Nat) (aa : Nat) (tx : Nat) (ty : Nat) (nt : Nat) (TX : Nat → Int32) (TY : Nat → Int32) (rt : Int32) (wx : Nat) (wz : Nat) (nw : Nat) (WX : Nat → Int32) (WY : Nat → Int32) (rw : Int32) (dx : Nat) (dy : Nat) (nd : Nat) (cd : Nat) (P : Nat → Int32) (Q : Nat → Int32) (rd : Int32) (b1 : Int32) (b2 : Int32) (b3 : Int32) (b4 : Int32) (b5 : Int32) (b6 : Int32) (b7 : Int32) (b8 : Int32) (kk : Nat) (rr : Nat) (sx : Int32) (sy : Int32) (hB : shB cI cO L f e0 FA ea bs dn T ft FT V VX VY tn rk wd tw pa pb wh of9 we kd st gb it mn cx cy) (hd5 : dn + 1 ≤ 512) (hf0 : f0 < ft) (htn : (tn f0).toInt = 0) (hst : (st f0).toInt = 1) (hwf : ∀ q, lvF ft st tn q → wfM mn cx cy q) (hkn : okN ft st tn kd mn) (hsm : mSm (kd f0).toInt (nN (mn f0)) (cF40 cx f0) (cF40 cy f0)) (hcd : 40 ≤ cd ∧ cd ≤ 1000) (hkk : kk < nN (mn f0)) (hrr : rr ≤ 20) (hdx : -200 ≤ sx.toInt ∧ sx.toInt ≤ 200) (hdy : -200 ≤ sy.toInt ∧ sy.toInt ≤ 200) (hkd : (kd f0).toInt = 6) (hlaw : lwM ft st tn kd mn cx cy f0 (nN (mn f0)) (fun i => cF40 cx f0 i + sx) (fun i => cF40 cy f0 i + sy)) (hmv : mvd (nN (mn f0)) (fun i => cF40 cx f0 i + sx) (fun i => cF40 cy f0 i + sy) (cF40 cx f0) (cF40 cy f0)) : zML l yX10_shift cX10_shift 8 (some .boolean) ({ frames := 9, cells := ft + 6, slots := 4 * ft + 2 * nN (mn f0) + 815, locals := 205 } : Room) [.ref x, .int (nI f0), .int (nI kk), .int sx, .int sy, .int (nI rr)] (dC, dI) (zTyO cI cZ cF cO) e0 mi ([(oc8 x (.ref sh) (.ref lw) (.ref ro) (.ref bq) (.ref bp) (.ref dq) (.ref dp) (.ref lv) (.ref sl) (nI dn) sd ul su), (oc10 sl mc9 (.ref ea) (nI T)), (oc3 lw (.ref dr) (.ref tg) (.ref wy) (.ref br) (.ref bo) (.ref aa)), (oc6 tg (.ref tx) (.ref ty) (nI nt) rt), (oa tx cI 3 TX), (oa ty cI 3 TY), (oc6 wy (.ref wx) (.ref wz) (nI nw) rw), (oa wx cI 2 WX), (oa wz cI 2 WY), (oc6 dr (.ref dx) (.ref dy) (nI nd) rd), (oa dx cI cd P), (oa dy cI cd Q), (oc0 br b1 b2 b3 b4), (oc0 bo b5 b6 b7 b8), (oc7 sh (.ref fa) (nI ft)), (oq fa cF 200 FA)] ++ va_pl L f) sz (some (.int 1)) (fun A t => ∃ (mc1 : Int32), ∃ (L1 : List Nat), ∃ (f1 : Nat → va_E), ∃ (ea1 : Nat), ∃ (nt1 : Nat), ∃ (TX1 : Nat → Int32), ∃ (TY1 : Nat → Int32), ∃ (rt1 : Int32), ∃ (nw1 : Nat), ∃ (WX1 : Nat → Int32), ∃ (WY1 : Nat → Int32), ∃ (rw1 : Int32), ∃ (d5 : Int32), ∃ (d6 : Int32), ∃ (d7 : Int32), ∃ (d8 : Int32), ∃ (e5 : Int32), ∃ (e6 : Int32), ∃ (e7 : Int32), ∃ (e8 : Int32), ∃ (P1 : Nat → Int32), ∃ (Q1 : Nat → Int32), (shB cI cO L1 f1 e0 FA ea1 bs (dn + 1) (dn + 1) ft (upN FT (dn + 1) ft) (upN V (dn + 1) (vC (V dn) kd st gb it mn)) (upN VX (dn + 1) (fgX f0 (nN (mn f0)) (fun i => cF40 cx f0 i + sx) cx)) (upN VY (dn + 1) (fgX f0 (nN (mn f0)) (fun i => cF40 cy f0 i + sy) cy)) tn rk wd tw pa pb (upd wh (dn + 1) (3 : Int32)) (upd of9 (dn + 1) (nI f0)) (upd we (dn + 1) (0 : Int32)) kd st gb it mn (fgX f0 (nN (mn f0)) (fun i => cF40 cx f0 i + sx) cx) (fgX f0 (nN (mn f0)) (fun i => cF40 cy f0 i + sy) cy)) ∧ zPD (dC, dI) classes A ([(oc8 x (.ref sh) (.ref lw) (.ref ro) (.ref bq) (.ref bp) (.ref dq) (.ref dp) (.ref lv) (.ref sl) (nI (dn + 1)) sd ul 0), (oc10 sl mc1 (.ref ea1) (nI (dn + 1))), (oc3 lw (.ref dr) (.ref tg) (.ref wy) (.ref br) (.ref bo) (.ref aa)), (oc6 tg (.ref tx) (.ref ty) (nI nt1) rt1), (oa tx cI 3 TX1), (oa ty cI 3 TY1), (oc6 wy (.ref wx) (.ref wz) (nI nw1) rw1), (oa wx cI 2 WX1), (oa wz cI 2 WY1), (oc6 dr (.ref dx) (.ref dy) (nI (nN (mn f0))) (rgK (kd f0).toInt)), (oa dx cI cd P1), (oa dy cI cd Q1), (oc0 br d5 d6 d7 d8), (oc0 bo e5 e6 e7 e8), (oc7 sh (.ref fa) (nI ft)), (oq fa cF 200 FA)] ++ va_pl L1 f1) t.heap) (ft + 6) (4 * ft + 2 * nN (mn f0) + 815) := by
  refine zInL (own := "ScaleShop") (loc := [(0, .ref x), (1, .int (nI f0)), (2, .int (nI kk)), (3, .int sx), (4, .int sy), (5, .int (nI rr))]) rfl rfl rfl rfl (fun p e s m below meth c hx hb hr hts hown hlocks hml hnm9 A hA hS hP hD hK hXL hXN hK3 Q9 hQ9 ls hl => ?_)
  obtain ⟨own, fe, cl, la, sp, SA, hG9, hH9, hft9, hO9⟩ := hB
  obtain ⟨hG, hM, hdT, hT5, hO⟩ := M_0 hG9 hH9 hft9 hO9
  have h200 : ft ≤ 200 := hG.2.2.2.2.2.1.2.2.2.2.2
  have hFA9 := hG.2.2.2.2.2.2
  refine ex13 (sh_fc hG.1 hG.2.1 (Nat.le_refl _) hf0 htn) (fun lo5 lx5 ly5 ln5 LX5 LY5 we5 r5 rx5 ry5 cap5 X5 Y5 hc5 => ?_)
  have hc5 := fc_0 hc5
  have hb5 := hc5.2.2.1
  have hb6 := hc5.2.1
  have hat9 := lo_at hO (Nat.le_refl _) hf0 hc5.1.1 hc5.1.2.2.2 (by omega) hc5.1.2.1 hb5.2.2
  have hlv : lvF ft st tn f0 := ⟨hf0, hst, htn⟩
  have hwf0 := hwf f0 hlv
  have hw1 := hwf0.2.1
  have hkn0 := hkn f0 hlv
  have hX5 := hc5.2.2.2.2.1
  have hkk9 : (nI kk).toInt = ((kk : Nat) : Int) := nI_toInt (by omega)
  have hrr9 : (nI rr).toInt = ((rr : Nat) : Int) := nI_toInt (by omega)
  have e_m200 : (-200 : Int32).toInt = -200 := (by decide)
  have e_200 : (200 : Int32).toInt = 200 := (by decide)
  have e_0 : (0 : Int32).toInt = 0 := (by decide)
  have e_20 : (20 : Int32).toInt = 20 := (by decide)
  have hc9_1 : inPl L f [(oc1 (fe f0) (rk f0) (wd f0) (tw f0) (pa f0) (pb f0) (.ref lo5) (.ref (la dn f0)) .null), (oc4 (la dn f0) (kd f0) (st f0) (.ref r5) (gb f0) (it f0) (nI we5)), (oc6 r5 (.ref rx5) (.ref ry5) (nI (nN (mn f0))) (rgK (kd f0).toInt)), (oa rx5 cI cap5 X5), (oa ry5 cI cap5 Y5), (oc6 lo5 (.ref lx5) (.ref ly5) (nI ln5) 0), (oa lx5 cI (cl f0) LX5), (oa ly5 cI (cl f0) LY5)] := ⟨ce_pl hc5.1.1, ce_pl hc5.1.2.1, ce_pl hc5.1.2.2.1.1, ce_pl hc5.1.2.2.1.2.1, ce_pl hc5.1.2.2.1.2.2.1, ce_pl hc5.1.2.2.2.1, ce_pl hc5.1.2.2.2.2.1, ce_pl hc5.1.2.2.2.2.2.1, trivial⟩
  have hD0_1 := hD
  obtain ⟨T_1, hT_1, hP, hD⟩ := pl_oT hP hD hc9_1 (pw8 hc5 (by omega))
  obtain ⟨hP, hD⟩ := zre (W2 := ([_, _, _, _, _, _, _, _, _, _, _, _, _, _, _, _, _, _, _, _, _, _, _, _] ++ va_pl T_1 f)) hP hD rfl
  refine lv_aload_n hx hb dX10_shift_0 rfl (lv_at hl 0 rfl) ?_
  refine va_get (D := (dC, dI)) (ci := 8) (v := .ref sh) (C := RX10) (T := TX10) (N := 13) hx hb hts inX10 hown hK hP 0 rfl rfl 0 (Nat.le_of_ble_eq_true rfl) (hts _ mw_309) (fun _ h9 => h9) rfl dX10_shift_1 ?_
  refine lv_iload_n hx hb dX10_shift_4 rfl (lv_at hl 1 rfl) ?_
  obtain ⟨hPc, hDc, hFc, hI1⟩ := zi_sub (wc := [_, _]) hP hD hS hA [14, 15] rfl rfl
  refine zcall (st1 := [.ref (fe f0)]) (va_runV (As := [.int (nI f0)]) (rest := []) ⟨hx, hb, hml, hown, hts⟩ (k_Sheet_find l dC dI cI cZ cF s.heap.size sh fa ft FA f0 (fe f0) (by first | with_reducible assumption | omega) (by first | with_reducible assumption | omega) (hFA9 f0 (by first | with_reducible assumption | omega))) (csV_94 hts rfl rfl ⟨Nat.le_of_ble_eq_true rfl, Nat.le_of_ble_eq_true rfl⟩) (zPV2 (q0 := 0) (ci := 7) hPc hDc hK3 hXN rfl rfl) rfl rfl hl.1 rfl (lv_room (Nat.le_of_ble_eq_true rfl)) dX10_shift_5 ⟨Nat.zero_le _, Nat.zero_le _⟩) hS hFc hFc rfl (fun t H locs ht hB hk1 hS => ?_)
  obtain ⟨hP1, hD1⟩ := hB
  rw [ht] at hP1
  replace hP := z0 hP hD hk1 hP1 hI1
  clear hk1 hPc hDc hFc hP1 hD1 ht hI1
  refine lv_astore (lv' := [(6, .ref (fe f0)), (0, .ref x), (1, .int (nI f0)), (2, .int (nI kk)), (3, .int sx), (4, .int sy), (5, .int (nI rr))]) hx hb dX10_shift_8 hl (Nat.le_of_ble_eq_true rfl) rfl (fun ls hl => ?_)
  refine lv_aload hx hb dX10_shift_10 (lv_at hl 0 rfl) ?_
  refine lv_ifnull hx hb dX10_shift_12 ?_
  refine lv_aload hx hb dX10_shift_15 (lv_at hl 0 rfl) ?_
  refine lv_iload_n hx hb dX10_shift_17 rfl (lv_at hl 3 rfl) ?_
  obtain ⟨hPc, hDc, hFc, hI1⟩ := zi_sub (wc := [_, _, _]) hP hD hS hA [16, 17, 18] rfl rfl
  refine zcall (st1 := [.int (pI (0 ≤ (nI kk).toInt ∧ (nI kk).toInt < (((nN (mn f0)) : Nat) : Int)))]) (va_runV (As := [.int (nI kk)]) (rest := []) ⟨hx, hb, hml, hown, hts⟩ (k_Feature_mayHaveCorner_r l dC dI cI cZ cF H.size (fe f0) lo5 (rk f0) (wd f0) (tw f0) (pa f0) (pb f0) (la dn f0) (kd f0) (st f0) (gb f0) (it f0) (nI we5) r5 rx5 ry5 (nN (mn f0)) (nI kk) (rgK (kd f0).toInt) (by first | with_reducible assumption | omega)) (csV_119 hts rfl rfl ⟨Nat.le_of_ble_eq_true rfl, Nat.le_of_ble_eq_true rfl⟩) (zPV2 (q0 := 0) (ci := 1) hPc hDc hK3 hXN rfl rfl) rfl rfl hl.1 rfl (lv_room (Nat.le_of_ble_eq_true rfl)) dX10_shift_18 ⟨Nat.zero_le _, Nat.zero_le _⟩) hS hFc hFc rfl (fun t H locs ht hB hk1 hS => ?_)
  obtain ⟨hP1, hD1⟩ := hB
  rw [ht] at hP1
  replace hP := z0 hP hD hk1 hP1 hI1
  clear hk1 hPc hDc hFc hP1 hD1 ht hI1
  refine lv_if_ne (tgt := 30) hx hb dX10_shift_21 rfl (fun c_1 => ?_) (fun c_1 => ?_)
  · have c_1 : 0 ≤ (nI kk).toInt ∧ (nI kk).toInt < (((nN (mn f0)) : Nat) : Int) := zp_1 c_1
    refine lv_aload hx hb dX10_shift_30 (lv_at hl 0 rfl) ?_
    refine va_get (D := (dC, dI)) (ci := 1) (v := .ref (la dn f0)) (C := RX2) (T := TX2) (N := 8) hx hb hts inX2 hown hK hP 16 rfl rfl 6 (Nat.le_of_ble_eq_true rfl) (hts _ mw_433) (fun _ h9 => h9) rfl dX10_shift_32 ?_
    refine va_get (D := (dC, dI)) (ci := 4) (v := .int (st f0)) (C := RX5) (T := TX5) (N := 6) hx hb hts inX5 hown hK hP 17 rfl rfl 1 (Nat.le_of_ble_eq_true rfl) (hts _ mw_385) (fun _ h9 => h9) rfl dX10_shift_35 ?_
    refine lv_iconst (v := 1) hx hb dX10_shift_38 rfl ?_
    refine lv_icmp_eq (tgt := 48) hx hb dX10_shift_39 rfl (fun c_2 => ?_) (fun c_2 => ?_)
    · have c_2 : (st f0).toInt = 1 := zc_eq rfl rfl c_2
      refine lv_iload_n hx hb dX10_shift_48 rfl (lv_at hl 4 rfl) ?_
      refine lv_sipush (v := (-200)) hx hb dX10_shift_49 rfl ?_
      refine lv_sipush (v := 200) hx hb dX10_shift_52 rfl ?_
      obtain ⟨hPc, hDc, hFc, hI1⟩ := zi_sub (wc := []) hP hD hS hA [] rfl rfl
      refine zcall (st1 := [.int (pI ((-200 : Int32).toInt ≤ sx.toInt ∧ sx.toInt ≤ (200 : Int32).toInt))]) (va_runS (As := [.int sx, .int (-200), .int 200]) (rest := []) ⟨hx, hb, hml, hown, hts⟩ (k_isWithin l dC dI cI cZ cF H.size sx (-200) 200 ) (csS_14 hts rfl rfl ⟨Nat.le_of_ble_eq_true rfl, Nat.le_of_ble_eq_true rfl⟩) (zPS2 hPc hDc hK3 hXN) rfl rfl hl.1 rfl (lv_room (Nat.le_of_ble_eq_true rfl)) dX10_shift_55 ⟨Nat.zero_le _, Nat.zero_le _⟩) hS hFc hFc rfl (fun t H locs ht hB hk1 hS => ?_)
      obtain ⟨hP1, hD1⟩ := hB
      rw [ht] at hP1
      replace hP := z0 hP hD hk1 hP1 hI1
      clear hk1 hPc hDc hFc hP1 hD1 ht hI1
      refine lv_if_eq (tgt := 75) hx hb dX10_shift_58 rfl (fun c_3 => ?_) (fun c_3 => ?_)
      · have c_3 : ¬ ((-200 : Int32).toInt ≤ sx.toInt ∧ sx.toInt ≤ (200 : Int32).toInt) := zp_0 c_3
        exfalso; omega
      · have c_3 : (-200 : Int32).toInt ≤ sx.toInt ∧ sx.toInt ≤ (200 : Int32).toInt := zp_1 c_3
        refine lv_iload hx hb dX10_shift_61 (lv_at hl 5 rfl) ?_
        refine lv_sipush (v := (-200)) hx hb dX10_shift_63 rfl ?_
        refine lv_sipush (v := 200) hx hb dX10_shift_66 rfl ?_
        obtain ⟨hPc, hDc, hFc, hI1⟩ := zi_sub (wc := []) hP hD hS hA [] rfl rfl
        refine zcall (st1 := [.int (pI ((-200 : Int32).toInt ≤ sy.toInt ∧ sy.toInt ≤ (200 : Int32).toInt))]) (va_runS (As := [.int sy, .int (-200), .int 200]) (rest := []) ⟨hx, hb, hml, hown, hts⟩ (k_isWithin l dC dI cI cZ cF H.size sy (-200) 200 ) (csS_14 hts rfl rfl ⟨Nat.le_of_ble_eq_true rfl, Nat.le_of_ble_eq_true rfl⟩) (zPS2 hPc hDc hK3 hXN) rfl rfl hl.1 rfl (lv_room (Nat.le_of_ble_eq_true rfl)) dX10_shift_69 ⟨Nat.zero_le _, Nat.zero_le _⟩) hS hFc hFc rfl (fun t H locs ht hB hk1 hS => ?_)
        obtain ⟨hP1, hD1⟩ := hB
        rw [ht] at hP1
        replace hP := z0 hP hD hk1 hP1 hI1
        clear hk1 hPc hDc hFc hP1 hD1 ht hI1
        refine lv_if_ne (tgt := 81) hx hb dX10_shift_72 rfl (fun c_4 => ?_) (fun c_4 => ?_)
        · have c_4 : (-200 : Int32).toInt ≤ sy.toInt ∧ sy.toInt ≤ (200 : Int32).toInt := zp_1 c_4
          refine lv_iload hx hb dX10_shift_81 (lv_at hl 6 rfl) ?_
          refine lv_iconst (v := 0) hx hb dX10_shift_83 rfl ?_
          refine lv_bipush (v := 20) hx hb dX10_shift_84 rfl ?_
          obtain ⟨hPc, hDc, hFc, hI1⟩ := zi_sub (wc := []) hP hD hS hA [] rfl rfl
          refine zcall (st1 := [.int (pI ((0 : Int32).toInt ≤ (nI rr).toInt ∧ (nI rr).toInt ≤ (20 : Int32).toInt))]) (va_runS (As := [.int (nI rr), .int 0, .int 20]) (rest := []) ⟨hx, hb, hml, hown, hts⟩ (k_isWithin l dC dI cI cZ cF H.size (nI rr) 0 20 ) (csS_14 hts rfl rfl ⟨Nat.le_of_ble_eq_true rfl, Nat.le_of_ble_eq_true rfl⟩) (zPS2 hPc hDc hK3 hXN) rfl rfl hl.1 rfl (lv_room (Nat.le_of_ble_eq_true rfl)) dX10_shift_86 ⟨Nat.zero_le _, Nat.zero_le _⟩) hS hFc hFc rfl (fun t H locs ht hB hk1 hS => ?_)
          obtain ⟨hP1, hD1⟩ := hB
          rw [ht] at hP1
          replace hP := z0 hP hD hk1 hP1 hI1
          clear hk1 hPc hDc hFc hP1 hD1 ht hI1
          refine lv_if_ne (tgt := 98) hx hb dX10_shift_89 rfl (fun c_5 => ?_) (fun c_5 => ?_)
          · have c_5 : (0 : Int32).toInt ≤ (nI rr).toInt ∧ (nI rr).toInt ≤ (20 : Int32).toInt := zp_1 c_5
            refine lv_aload hx hb dX10_shift_98 (lv_at hl 0 rfl) ?_
            refine va_get (D := (dC, dI)) (ci := 1) (v := .ref (la dn f0)) (C := RX2) (T := TX2) (N := 8) hx hb hts inX2 hown hK hP 16 rfl rfl 6 (Nat.le_of_ble_eq_true rfl) (hts _ mw_433) (fun _ h9 => h9) rfl dX10_shift_100 ?_
            refine va_get (D := (dC, dI)) (ci := 4) (v := .ref r5) (C := RX5) (T := TX5) (N := 6) hx hb hts inX5 hown hK hP 17 rfl rfl 2 (Nat.le_of_ble_eq_true rfl) (hts _ mw_391) (fun _ h9 => h9) rfl dX10_shift_103 ?_
            refine lv_astore (lv' := [(7, .ref r5), (6, .ref (fe f0)), (0, .ref x), (1, .int (nI f0)), (2, .int (nI kk)), (3, .int sx), (4, .int sy), (5, .int (nI rr))]) hx hb dX10_shift_106 hl (Nat.le_of_ble_eq_true rfl) rfl (fun ls hl => ?_)
            refine lv_aload hx hb dX10_shift_108 (lv_at hl 0 rfl) ?_
            refine lv_ifnonnull (tgt := 119) hx hb dX10_shift_110 rfl ?_
            refine lv_aload_n hx hb dX10_shift_119 rfl (lv_at hl 2 rfl) ?_
            refine va_get (D := (dC, dI)) (ci := 8) (v := .ref lw) (C := RX10) (T := TX10) (N := 13) hx hb hts inX10 hown hK hP 0 rfl rfl 1 (Nat.le_of_ble_eq_true rfl) (hts _ mw_310) (fun _ h9 => h9) rfl dX10_shift_120 ?_
            refine va_get (D := (dC, dI)) (ci := 3) (v := .ref dr) (C := RX4) (T := TX4) (N := 6) hx hb hts inX4 hown hK hP 2 rfl rfl 0 (Nat.le_of_ble_eq_true rfl) (hts _ mw_220) (fun _ h9 => h9) rfl dX10_shift_123 ?_
            refine lv_aload hx hb dX10_shift_126 (lv_at hl 0 rfl) ?_
            obtain ⟨hPc, hDc, hFc⟩ := zo_sub (wc := [_, _, _, _, _, _]) hP hD hS hA [9, 10, 11, 18, 19, 20] (by decide +kernel) rfl
            refine zcall (st1 := []) (va_runV (As := [.ref r5]) (rest := []) ⟨hx, hb, hml, hown, hts⟩ (k_Row_copyFrom l dC dI cI cZ cF H.size dr dx dy nd cd P Q rd r5 rx5 ry5 (nN (mn f0)) cap5 X5 Y5 (rgK (kd f0).toInt) (by first | with_reducible assumption | omega) (by first | with_reducible assumption | omega) (by first | with_reducible assumption | omega) (by first | with_reducible assumption | omega) (rgK_01 _)) (csV_120 hts rfl rfl ⟨Nat.le_of_ble_eq_true rfl, Nat.le_of_ble_eq_true rfl⟩) (zPV2 (q0 := 0) (ci := 6) hPc hDc hK3 hXN rfl rfl) rfl rfl hl.1 rfl (lv_room (Nat.le_of_ble_eq_true rfl)) dX10_shift_128 ⟨Nat.zero_le _, Nat.zero_le _⟩) hS hFc hFc rfl (fun t H locs ht hB hk1 hS => ?_)
            obtain ⟨P6, Q6, hcp7, hP1, hD1⟩ := hB
            rw [ht] at hP1
            obtain ⟨hP, hD⟩ := znQ (W2 := [_, _, _, _, _, _, _, _, _, (oc6 dr (.ref dx) (.ref dy) (nI (nN (mn f0))) (rgK (kd f0).toInt)), (oa dx cI cd P6), (oa dy cI cd Q6), _, _, _, _, _, _, _, _, _, _, _, _]) hP hD hk1 hFc hP1 hD1 [9, 10, 11, 18, 19, 20] zl_77 zl_77 [9, 10, 11, 18, 19, 20] (by decide +kernel) rfl rfl rfl rfl rfl
            clear hk1 hPc hDc hFc hP1 hD1 ht
            refine lv_aload hx hb dX10_shift_131 (lv_at hl 1 rfl) ?_
            obtain ⟨hPc, hDc, hFc, hI1⟩ := zi_sub (wc := [_, _]) hP hD hS hA [16, 17] rfl rfl
            refine zcall (st1 := [.int (pI (1 ≤ (kd f0).toInt ∧ (kd f0).toInt ≤ 5))]) (va_runV (As := []) (rest := []) ⟨hx, hb, hml, hown, hts⟩ (k_Feature_bends_r l dC dI cI cZ cF H.size (fe f0) lo5 (rk f0) (wd f0) (tw f0) (pa f0) (pb f0) (la dn f0) (kd f0) (st f0) (gb f0) (it f0) (nI we5) r5 ) (csV_97 hts rfl rfl ⟨Nat.le_of_ble_eq_true rfl, Nat.le_of_ble_eq_true rfl⟩) (zPV2 (q0 := 0) (ci := 1) hPc hDc hK3 hXN rfl rfl) rfl rfl hl.1 rfl (lv_room (Nat.le_of_ble_eq_true rfl)) dX10_shift_133 ⟨Nat.zero_le _, Nat.zero_le _⟩) hS hFc hFc rfl (fun t H locs ht hB hk1 hS => ?_)
            obtain ⟨hP1, hD1⟩ := hB
            rw [ht] at hP1
            replace hP := z0 hP hD hk1 hP1 hI1
            clear hk1 hPc hDc hFc hP1 hD1 ht hI1
            refine lv_if_eq (tgt := 158) hx hb dX10_shift_136 rfl (fun c_6 => ?_) (fun c_6 => ?_)
            · have c_6 : ¬ (1 ≤ (kd f0).toInt ∧ (kd f0).toInt ≤ 5) := zp_0 c_6
              refine lv_aload_n hx hb dX10_shift_158 rfl (lv_at hl 2 rfl) ?_
              refine va_get (D := (dC, dI)) (ci := 8) (v := .ref lw) (C := RX10) (T := TX10) (N := 13) hx hb hts inX10 hown hK hP 0 rfl rfl 1 (Nat.le_of_ble_eq_true rfl) (hts _ mw_310) (fun _ h9 => h9) rfl dX10_shift_159 ?_
              refine va_get (D := (dC, dI)) (ci := 3) (v := .ref dr) (C := RX4) (T := TX4) (N := 6) hx hb hts inX4 hown hK hP 2 rfl rfl 0 (Nat.le_of_ble_eq_true rfl) (hts _ mw_220) (fun _ h9 => h9) rfl dX10_shift_162 ?_
              refine lv_iload_n hx hb dX10_shift_165 rfl (lv_at hl 5 rfl) ?_
              refine lv_iload hx hb dX10_shift_166 (lv_at hl 6 rfl) ?_
              obtain ⟨hPc, hDc, hFc⟩ := zo_sub (wc := [_, _, _]) hP hD hS hA [9, 10, 11] rfl rfl
              refine zcall (st1 := []) (va_runV (As := [.int sx, .int sy]) (rest := []) ⟨hx, hb, hml, hown, hts⟩ (k_Row_carry l dC dI cI cZ cF H.size dr dx dy (nN (mn f0)) cd P6 Q6 (rgK (kd f0).toInt) sx sy (by first | with_reducible assumption | omega) (by first | with_reducible assumption | omega)) (csV_143 hts rfl rfl ⟨Nat.le_of_ble_eq_true rfl, Nat.le_of_ble_eq_true rfl⟩) (zPV2 (q0 := 0) (ci := 6) hPc hDc hK3 hXN rfl rfl) rfl rfl hl.1 rfl (lv_room (Nat.le_of_ble_eq_true rfl)) dX10_shift_168 ⟨Nat.zero_le _, Nat.zero_le _⟩) hS hFc hFc rfl (fun t H locs ht hB hk1 hS => ?_)
              obtain ⟨P7, Q7, hall7, hP1, hD1⟩ := hB
              rw [ht] at hP1
              obtain ⟨hP, hD⟩ := znQ (W2 := [_, _, _, _, _, _, _, _, _, _, (oa dx cI cd P7), (oa dy cI cd Q7), _, _, _, _, _, _, _, _, _, _, _, _]) hP hD hk1 hFc hP1 hD1 [9, 10, 11] zl_82 zl_82 [9, 10, 11] (by decide +kernel) rfl rfl rfl rfl rfl
              clear hk1 hPc hDc hFc hP1 hD1 ht
              have hv7 : ∀ k, k < nN (mn f0) → P7 k = (fun i => cF40 cx f0 i + sx) k ∧ Q7 k = (fun i => cF40 cy f0 i + sy) k := fun k hk => by rw [(hall7 k hk).1, (hall7 k hk).2, (hcp7 k hk).1, (hcp7 k hk).2, (hX5 k hk).1, (hX5 k hk).2]; exact ⟨rfl, rfl⟩
              refine lv_aload_n hx hb dX10_shift_171 rfl (lv_at hl 2 rfl) ?_
              refine lv_aload hx hb dX10_shift_172 (lv_at hl 1 rfl) ?_
              refine lv_iload_n hx hb dX10_shift_174 rfl (lv_at hl 3 rfl) ?_
              refine lv_iconst (v := 3) hx hb dX10_shift_175 rfl ?_
              obtain ⟨hPc, hDc, hFc⟩ := zo_part (cx := [_, _, _, _, _, _, _, _, _, _, _, _, _, _, _, _, _, _, _, _, _, _, _, _]) hP hD hS hA [0, 1, 2, 3, 4, 5, 6, 7, 8, 9, 10, 11, 12, 13, 16, 17, 18, 19, 20, 21, 22, 23, 14, 15] (by decide +kernel) rfl
              refine zcall (st1 := [.int 1]) (va_runV (As := [.ref (fe f0), .int (nI f0), .int 3]) (rest := []) ⟨hx, hb, hml, hown, hts⟩ (k_moveTo_m_y l dC dI cI cZ cF H.size cO e0 mi x sh lw ro bq bp dq dp lv sl sd ul su ea mc9 fa FA bs dn T ft FT V VX VY tn rk wd tw pa pb wh of9 we kd st gb it mn cx cy T_1 f L f0 own fe cl la sp SA lo5 lx5 ly5 ln5 LX5 LY5 we5 r5 rx5 ry5 cap5 X5 Y5 dr tg wy br bo aa tx ty nt TX TY rt wx wz nw WX WY rw dx dy cd P7 Q7 b1 b2 b3 b4 b5 b6 b7 b8 3 (fgX f0 (nN (mn f0)) (fun i => cF40 cx f0 i + sx) cx) (fgX f0 (nN (mn f0)) (fun i => cF40 cy f0 i + sy) cy) (hG9) (hH9) (hft9) (hO9) (hc5) (hT_1) (by first | with_reducible assumption | assumption) (by first | with_reducible assumption | assumption) (hst) (hwf) (hkn) (by first | with_reducible assumption | omega) (by have := hkn0; have := hsm.1; omega) (by first | with_reducible assumption | omega) (((alM_cx hw1.1 hX5).trans (alM_lw (VX := fun i => cF40 cx f0 i + sx) (VY := fun i => cF40 cy f0 i + sy) (by first | with_reducible assumption | omega) (by first | with_reducible assumption | omega) (hsm.2 (by first | with_reducible assumption | omega)).1 hv7 hwf hkn)).mpr hlaw) (fun h => absurd hmv ((mv_alk hv7 hX5).mp h)) (fun k hk => by rw [fgX_f k hk, fgX_f k hk]; exact hv7 k hk) (fun j hj => ⟨fgX_o (by first | with_reducible assumption | omega), fgX_o (by first | with_reducible assumption | omega)⟩)) (csV_117 hts rfl rfl ⟨Nat.le_of_ble_eq_true rfl, Nat.le_of_ble_eq_true rfl⟩) (zPVL (q0 := 0) (ci := 8) hPc hDc hK hXL hS hFc rfl rfl) rfl rfl hl.1 rfl (lv_room (Nat.le_of_ble_eq_true rfl)) dX10_shift_176 ⟨show (0 + (ft + 6)) ≤ ft + 6 by omega, show (0 + (4 * ft + 2 * nN (mn f0) + 815)) ≤ 4 * ft + 2 * nN (mn f0) + 815 by omega⟩) hS hFc hFc rfl (fun t H locs ht hB hk1 hS => ?_)
              refine ex20 hB (fun mc8 L8 f8 ea8 nt8 TX8 TY8 rt8 nw8 WX8 WY8 rw8 g08 g18 g28 g38 g48 g58 g68 g78 hB0 => ?_)
              clear hB
              obtain ⟨hB6, hP1, hD1⟩ := hB0
              rw [ht] at hP1
              obtain ⟨hP, hD⟩ := znP (W2 := [(oc8 x (.ref sh) (.ref lw) (.ref ro) (.ref bq) (.ref bp) (.ref dq) (.ref dp) (.ref lv) (.ref sl) (nI (dn + 1)) sd ul 0), (oc10 sl mc8 (.ref ea8) (nI (dn + 1))), (oc3 lw (.ref dr) (.ref tg) (.ref wy) (.ref br) (.ref bo) (.ref aa)), (oc6 tg (.ref tx) (.ref ty) (nI nt8) rt8), (oa tx cI 3 TX8), (oa ty cI 3 TY8), (oc6 wy (.ref wx) (.ref wz) (nI nw8) rw8), (oa wx cI 2 WX8), (oa wz cI 2 WY8), (oc6 dr (.ref dx) (.ref dy) (nI (nN (mn f0))) (rgK (kd f0).toInt)), (oa dx cI cd P7), (oa dy cI cd Q7), (oc0 br g08 g18 g28 g38), (oc0 bo g48 g58 g68 g78), (oc7 sh (.ref fa) (nI ft)), (oq fa cF 200 FA)]) hP hD hk1 hFc hP1 hD1 zl_78 [] zl_79 zl_80 (by decide +kernel) rfl rfl rfl rfl rfl
              clear hk1 hPc hDc hFc hP1 hD1 ht
              obtain ⟨hP9, hD9⟩ := zu_part (cx := [_, _, _, _, _, _, _, _, _, _, _, _, _, _, _, _]) hP hD [true, true, true, true, true, true, true, true, true, true, true, true, true, true, true, true] rfl rfl
              refine W.widen (k := ft + 6) (n := 4 * ft + 2 * nN (mn f0) + 815) (by omega) (by omega) ?_
              rw [hQ9]
              exact W.zret (ty := .boolean) (v := 1) hx hb hr (rfl) (fun t ht hW => ⟨⟨rfl, mc8, L8, f8, ea8, nt8, TX8, TY8, rt8, nw8, WX8, WY8, rw8, g08, g18, g28, g38, g48, g58, g68, g78, P7, Q7, (hB6), by rw [ht]; exact hP9, hD9⟩, hS.F ht⟩) hS.2.2 dX10_shift_179
            · have c_6 : 1 ≤ (kd f0).toInt ∧ (kd f0).toInt ≤ 5 := zp_1 c_6
              exfalso; omega
          · have c_5 : ¬ ((0 : Int32).toInt ≤ (nI rr).toInt ∧ (nI rr).toInt ≤ (20 : Int32).toInt) := zp_0 c_5
            exfalso; omega
        · have c_4 : ¬ ((-200 : Int32).toInt ≤ sy.toInt ∧ sy.toInt ≤ (200 : Int32).toInt) := zp_0 c_4
          exfalso; omega
    · have c_2 : ¬ (st f0).toInt = 1 := zc_ne rfl rfl c_2
      exfalso; omega
  · have c_1 : ¬ (0 ≤ (nI kk).toInt ∧ (nI kk).toInt < (((nN (mn f0)) : Nat) : Int)) := zp_0 c_1
    exfalso; omega
set_option maxHeartbeats 4000000 in
set_option maxRecDepth 100000 in
theorem k_shiftt_n (l : Launch) (dC : Nat → ClassId) (dI : Nat → Nat → Nat) (cI cZ cF : ClassId) (sz : Nat) (cO : ClassId) (e0 : Nat) (mi : Nat) (x : Nat) (sh : Nat) (lw : Nat) (ro : Nat) (bq : Nat) (bp : Nat) (dq : Nat) (dp : Nat) (lv : Nat) (sl : Nat) (sd : Int32) (ul : Int32) (su : Int32) (ea : Nat) (mc9 : Int32) (fa : Nat) (FA : Nat → Option Nat) (bs : Nat) (dn : Nat) (T : Nat) (ft : Nat) (FT : Nat → Nat) (V : Nat → Nat → Nat → Int32) (VX : Nat → Nat → Int32) (VY : Nat → Nat → Int32) (tn : Nat → Int32) (rk : Nat → Int32) (wd : Nat → Int32) (tw : Nat → Int32) (pa : Nat → Int32) (pb : Nat → Int32) (wh : Nat → Int32) (of9 : Nat → Int32) (we : Nat → Int32) (kd : Nat → Int32) (st : Nat → Int32) (gb : Nat → Int32) (it : Nat → Int32) (mn : Nat → Int32) (cx : Nat → Int32) (cy : Nat → Int32) (L : List Nat) (f : Nat → va_E) (f0 : Nat) (dr : Nat) (tg : Nat) (wy : Nat) (br : Nat) (bo : Nat) (aa : Nat) (tx : Nat) (ty : Nat) (nt : Nat) (TX : Nat → Int32) (TY : Nat → Int32) (rt : Int32) (wx : Nat) (wz : Nat) (nw : Nat) (WX : Nat → Int32) (WY : Nat → Int32) (rw : Int32) (dx : Nat) (dy : Nat) (nd : Nat) (cd : Nat) (P : Nat → Int32) (Q : Nat → Int32) (rd : Int32) (b1 : Int32) (b2 : Int32) (b3 : Int32) (b4 : Int32) (b5 : Int32) (b6 : Int32) (b7 : Int32) (b8 : Int32) (kk : Nat) (rr : Nat) (sx : Int32) (sy : Int32) (hB : shB cI cO L f e0 FA ea bs dn T ft FT V VX VY tn rk wd tw pa pb wh of9 we kd st gb it mn cx cy) (hf0 : f0 < ft) (htn : (tn f0).toInt = 0) (hst : (st f0).toInt = 1) (hwf : ∀ q, lvF ft st tn q → wfM mn cx cy q) (hkn : okN ft st tn kd mn) (hsm : mSm (kd f0).toInt (nN (mn f0)) (cF40 cx f0) (cF40 cy f0)) (hcd : 40 ≤ cd ∧ cd ≤ 1000) (hkk : kk < nN (mn f0)) (hrr : rr ≤ 20) (hdx : -200 ≤ sx.toInt ∧ sx.toInt ≤ 200) (hdy : -200 ≤ sy.toInt ∧ sy.toInt ≤ 200) (hkd : (kd f0).toInt = 6) (hbad : ¬ ((lwM ft st tn kd mn cx cy f0 (nN (mn f0)) (fun i => cF40 cx f0 i + sx) (fun i => cF40 cy f0 i + sy)) ∧ mvd (nN (mn f0)) (fun i => cF40 cx f0 i + sx) (fun i => cF40 cy f0 i + sy) (cF40 cx f0) (cF40 cy f0))) : zML l yX10_shift cX10_shift 8 (some .boolean) ({ frames := 6, cells := 0, slots := 0, locals := 155 } : Room) [.ref x, .int (nI f0), .int (nI kk), .int sx, .int sy, .int (nI rr)] (dC, dI) (zTyO cI cZ cF cO) e0 mi ([(oc8 x (.ref sh) (.ref lw) (.ref ro) (.ref bq) (.ref bp) (.ref dq) (.ref dp) (.ref lv) (.ref sl) (nI dn) sd ul su), (oc10 sl mc9 (.ref ea) (nI T)), (oc3 lw (.ref dr) (.ref tg) (.ref wy) (.ref br) (.ref bo) (.ref aa)), (oc6 tg (.ref tx) (.ref ty) (nI nt) rt), (oa tx cI 3 TX), (oa ty cI 3 TY), (oc6 wy (.ref wx) (.ref wz) (nI nw) rw), (oa wx cI 2 WX), (oa wz cI 2 WY), (oc6 dr (.ref dx) (.ref dy) (nI nd) rd), (oa dx cI cd P), (oa dy cI cd Q), (oc0 br b1 b2 b3 b4), (oc0 bo b5 b6 b7 b8), (oc7 sh (.ref fa) (nI ft)), (oq fa cF 200 FA)] ++ va_pl L f) sz (some (.int 0)) (fun A t => ∃ (ul1 : Int32), ∃ (su1 : Int32), ∃ (nt1 : Nat), ∃ (TX1 : Nat → Int32), ∃ (TY1 : Nat → Int32), ∃ (rt1 : Int32), ∃ (nw1 : Nat), ∃ (WX1 : Nat → Int32), ∃ (WY1 : Nat → Int32), ∃ (rw1 : Int32), ∃ (d5 : Int32), ∃ (d6 : Int32), ∃ (d7 : Int32), ∃ (d8 : Int32), ∃ (e5 : Int32), ∃ (e6 : Int32), ∃ (e7 : Int32), ∃ (e8 : Int32), ∃ (P1 : Nat → Int32), ∃ (Q1 : Nat → Int32), zPD (dC, dI) classes A ([(oc8 x (.ref sh) (.ref lw) (.ref ro) (.ref bq) (.ref bp) (.ref dq) (.ref dp) (.ref lv) (.ref sl) (nI dn) sd ul1 su1), (oc10 sl mc9 (.ref ea) (nI T)), (oc3 lw (.ref dr) (.ref tg) (.ref wy) (.ref br) (.ref bo) (.ref aa)), (oc6 tg (.ref tx) (.ref ty) (nI nt1) rt1), (oa tx cI 3 TX1), (oa ty cI 3 TY1), (oc6 wy (.ref wx) (.ref wz) (nI nw1) rw1), (oa wx cI 2 WX1), (oa wz cI 2 WY1), (oc6 dr (.ref dx) (.ref dy) (nI (nN (mn f0))) (rgK (kd f0).toInt)), (oa dx cI cd P1), (oa dy cI cd Q1), (oc0 br d5 d6 d7 d8), (oc0 bo e5 e6 e7 e8), (oc7 sh (.ref fa) (nI ft)), (oq fa cF 200 FA)] ++ va_pl L f) t.heap) 0 0 := by
  refine zInL (own := "ScaleShop") (loc := [(0, .ref x), (1, .int (nI f0)), (2, .int (nI kk)), (3, .int sx), (4, .int sy), (5, .int (nI rr))]) rfl rfl rfl rfl (fun p e s m below meth c hx hb hr hts hown hlocks hml hnm9 A hA hS hP hD hK hXL hXN hK3 Q9 hQ9 ls hl => ?_)
  obtain ⟨own, fe, cl, la, sp, SA, hG9, hH9, hft9, hO9⟩ := hB
  obtain ⟨hG, hM, hdT, hT5, hO⟩ := M_0 hG9 hH9 hft9 hO9
  have h200 : ft ≤ 200 := hG.2.2.2.2.2.1.2.2.2.2.2
  have hFA9 := hG.2.2.2.2.2.2
  refine ex13 (sh_fc hG.1 hG.2.1 (Nat.le_refl _) hf0 htn) (fun lo5 lx5 ly5 ln5 LX5 LY5 we5 r5 rx5 ry5 cap5 X5 Y5 hc5 => ?_)
  have hc5 := fc_0 hc5
  have hb5 := hc5.2.2.1
  have hb6 := hc5.2.1
  have hat9 := lo_at hO (Nat.le_refl _) hf0 hc5.1.1 hc5.1.2.2.2 (by omega) hc5.1.2.1 hb5.2.2
  have hlv : lvF ft st tn f0 := ⟨hf0, hst, htn⟩
  have hwf0 := hwf f0 hlv
  have hw1 := hwf0.2.1
  have hkn0 := hkn f0 hlv
  have hX5 := hc5.2.2.2.2.1
  have hkk9 : (nI kk).toInt = ((kk : Nat) : Int) := nI_toInt (by omega)
  have hrr9 : (nI rr).toInt = ((rr : Nat) : Int) := nI_toInt (by omega)
  have e_m200 : (-200 : Int32).toInt = -200 := (by decide)
  have e_200 : (200 : Int32).toInt = 200 := (by decide)
  have e_0 : (0 : Int32).toInt = 0 := (by decide)
  have e_20 : (20 : Int32).toInt = 20 := (by decide)
  have hc9_1 : inPl L f [(oc1 (fe f0) (rk f0) (wd f0) (tw f0) (pa f0) (pb f0) (.ref lo5) (.ref (la dn f0)) .null), (oc4 (la dn f0) (kd f0) (st f0) (.ref r5) (gb f0) (it f0) (nI we5)), (oc6 r5 (.ref rx5) (.ref ry5) (nI (nN (mn f0))) (rgK (kd f0).toInt)), (oa rx5 cI cap5 X5), (oa ry5 cI cap5 Y5), (oc6 lo5 (.ref lx5) (.ref ly5) (nI ln5) 0), (oa lx5 cI (cl f0) LX5), (oa ly5 cI (cl f0) LY5)] := ⟨ce_pl hc5.1.1, ce_pl hc5.1.2.1, ce_pl hc5.1.2.2.1.1, ce_pl hc5.1.2.2.1.2.1, ce_pl hc5.1.2.2.1.2.2.1, ce_pl hc5.1.2.2.2.1, ce_pl hc5.1.2.2.2.2.1, ce_pl hc5.1.2.2.2.2.2.1, trivial⟩
  have hD0_1 := hD
  obtain ⟨T_1, hT_1, hP, hD⟩ := pl_oT hP hD hc9_1 (pw8 hc5 (by omega))
  obtain ⟨hP, hD⟩ := zre (W2 := ([_, _, _, _, _, _, _, _, _, _, _, _, _, _, _, _, _, _, _, _, _, _, _, _] ++ va_pl T_1 f)) hP hD rfl
  refine lv_aload_n hx hb dX10_shift_0 rfl (lv_at hl 0 rfl) ?_
  refine va_get (D := (dC, dI)) (ci := 8) (v := .ref sh) (C := RX10) (T := TX10) (N := 13) hx hb hts inX10 hown hK hP 0 rfl rfl 0 (Nat.le_of_ble_eq_true rfl) (hts _ mw_309) (fun _ h9 => h9) rfl dX10_shift_1 ?_
  refine lv_iload_n hx hb dX10_shift_4 rfl (lv_at hl 1 rfl) ?_
  obtain ⟨hPc, hDc, hFc, hI1⟩ := zi_sub (wc := [_, _]) hP hD hS hA [14, 15] rfl rfl
  refine zcall (st1 := [.ref (fe f0)]) (va_runV (As := [.int (nI f0)]) (rest := []) ⟨hx, hb, hml, hown, hts⟩ (k_Sheet_find l dC dI cI cZ cF s.heap.size sh fa ft FA f0 (fe f0) (by first | with_reducible assumption | omega) (by first | with_reducible assumption | omega) (hFA9 f0 (by first | with_reducible assumption | omega))) (csV_94 hts rfl rfl ⟨Nat.le_of_ble_eq_true rfl, Nat.le_of_ble_eq_true rfl⟩) (zPV2 (q0 := 0) (ci := 7) hPc hDc hK3 hXN rfl rfl) rfl rfl hl.1 rfl (lv_room (Nat.le_of_ble_eq_true rfl)) dX10_shift_5 ⟨Nat.le_of_ble_eq_true rfl, Nat.le_of_ble_eq_true rfl⟩) hS hFc hFc rfl (fun t H locs ht hB hk1 hS => ?_)
  obtain ⟨hP1, hD1⟩ := hB
  rw [ht] at hP1
  replace hP := z0 hP hD hk1 hP1 hI1
  clear hk1 hPc hDc hFc hP1 hD1 ht hI1
  refine lv_astore (lv' := [(6, .ref (fe f0)), (0, .ref x), (1, .int (nI f0)), (2, .int (nI kk)), (3, .int sx), (4, .int sy), (5, .int (nI rr))]) hx hb dX10_shift_8 hl (Nat.le_of_ble_eq_true rfl) rfl (fun ls hl => ?_)
  refine lv_aload hx hb dX10_shift_10 (lv_at hl 0 rfl) ?_
  refine lv_ifnull hx hb dX10_shift_12 ?_
  refine lv_aload hx hb dX10_shift_15 (lv_at hl 0 rfl) ?_
  refine lv_iload_n hx hb dX10_shift_17 rfl (lv_at hl 3 rfl) ?_
  obtain ⟨hPc, hDc, hFc, hI1⟩ := zi_sub (wc := [_, _, _]) hP hD hS hA [16, 17, 18] rfl rfl
  refine zcall (st1 := [.int (pI (0 ≤ (nI kk).toInt ∧ (nI kk).toInt < (((nN (mn f0)) : Nat) : Int)))]) (va_runV (As := [.int (nI kk)]) (rest := []) ⟨hx, hb, hml, hown, hts⟩ (k_Feature_mayHaveCorner_r l dC dI cI cZ cF H.size (fe f0) lo5 (rk f0) (wd f0) (tw f0) (pa f0) (pb f0) (la dn f0) (kd f0) (st f0) (gb f0) (it f0) (nI we5) r5 rx5 ry5 (nN (mn f0)) (nI kk) (rgK (kd f0).toInt) (by first | with_reducible assumption | omega)) (csV_119 hts rfl rfl ⟨Nat.le_of_ble_eq_true rfl, Nat.le_of_ble_eq_true rfl⟩) (zPV2 (q0 := 0) (ci := 1) hPc hDc hK3 hXN rfl rfl) rfl rfl hl.1 rfl (lv_room (Nat.le_of_ble_eq_true rfl)) dX10_shift_18 ⟨Nat.le_of_ble_eq_true rfl, Nat.le_of_ble_eq_true rfl⟩) hS hFc hFc rfl (fun t H locs ht hB hk1 hS => ?_)
  obtain ⟨hP1, hD1⟩ := hB
  rw [ht] at hP1
  replace hP := z0 hP hD hk1 hP1 hI1
  clear hk1 hPc hDc hFc hP1 hD1 ht hI1
  refine lv_if_ne (tgt := 30) hx hb dX10_shift_21 rfl (fun c_1 => ?_) (fun c_1 => ?_)
  · have c_1 : 0 ≤ (nI kk).toInt ∧ (nI kk).toInt < (((nN (mn f0)) : Nat) : Int) := zp_1 c_1
    refine lv_aload hx hb dX10_shift_30 (lv_at hl 0 rfl) ?_
    refine va_get (D := (dC, dI)) (ci := 1) (v := .ref (la dn f0)) (C := RX2) (T := TX2) (N := 8) hx hb hts inX2 hown hK hP 16 rfl rfl 6 (Nat.le_of_ble_eq_true rfl) (hts _ mw_433) (fun _ h9 => h9) rfl dX10_shift_32 ?_
    refine va_get (D := (dC, dI)) (ci := 4) (v := .int (st f0)) (C := RX5) (T := TX5) (N := 6) hx hb hts inX5 hown hK hP 17 rfl rfl 1 (Nat.le_of_ble_eq_true rfl) (hts _ mw_385) (fun _ h9 => h9) rfl dX10_shift_35 ?_
    refine lv_iconst (v := 1) hx hb dX10_shift_38 rfl ?_
    refine lv_icmp_eq (tgt := 48) hx hb dX10_shift_39 rfl (fun c_2 => ?_) (fun c_2 => ?_)
    · have c_2 : (st f0).toInt = 1 := zc_eq rfl rfl c_2
      refine lv_iload_n hx hb dX10_shift_48 rfl (lv_at hl 4 rfl) ?_
      refine lv_sipush (v := (-200)) hx hb dX10_shift_49 rfl ?_
      refine lv_sipush (v := 200) hx hb dX10_shift_52 rfl ?_
      obtain ⟨hPc, hDc, hFc, hI1⟩ := zi_sub (wc := []) hP hD hS hA [] rfl rfl
      refine zcall (st1 := [.int (pI ((-200 : Int32).toInt ≤ sx.toInt ∧ sx.toInt ≤ (200 : Int32).toInt))]) (va_runS (As := [.int sx, .int (-200), .int 200]) (rest := []) ⟨hx, hb, hml, hown, hts⟩ (k_isWithin l dC dI cI cZ cF H.size sx (-200) 200 ) (csS_14 hts rfl rfl ⟨Nat.le_of_ble_eq_true rfl, Nat.le_of_ble_eq_true rfl⟩) (zPS2 hPc hDc hK3 hXN) rfl rfl hl.1 rfl (lv_room (Nat.le_of_ble_eq_true rfl)) dX10_shift_55 ⟨Nat.le_of_ble_eq_true rfl, Nat.le_of_ble_eq_true rfl⟩) hS hFc hFc rfl (fun t H locs ht hB hk1 hS => ?_)
      obtain ⟨hP1, hD1⟩ := hB
      rw [ht] at hP1
      replace hP := z0 hP hD hk1 hP1 hI1
      clear hk1 hPc hDc hFc hP1 hD1 ht hI1
      refine lv_if_eq (tgt := 75) hx hb dX10_shift_58 rfl (fun c_3 => ?_) (fun c_3 => ?_)
      · have c_3 : ¬ ((-200 : Int32).toInt ≤ sx.toInt ∧ sx.toInt ≤ (200 : Int32).toInt) := zp_0 c_3
        exfalso; omega
      · have c_3 : (-200 : Int32).toInt ≤ sx.toInt ∧ sx.toInt ≤ (200 : Int32).toInt := zp_1 c_3
        refine lv_iload hx hb dX10_shift_61 (lv_at hl 5 rfl) ?_
        refine lv_sipush (v := (-200)) hx hb dX10_shift_63 rfl ?_
        refine lv_sipush (v := 200) hx hb dX10_shift_66 rfl ?_
        obtain ⟨hPc, hDc, hFc, hI1⟩ := zi_sub (wc := []) hP hD hS hA [] rfl rfl
        refine zcall (st1 := [.int (pI ((-200 : Int32).toInt ≤ sy.toInt ∧ sy.toInt ≤ (200 : Int32).toInt))]) (va_runS (As := [.int sy, .int (-200), .int 200]) (rest := []) ⟨hx, hb, hml, hown, hts⟩ (k_isWithin l dC dI cI cZ cF H.size sy (-200) 200 ) (csS_14 hts rfl rfl ⟨Nat.le_of_ble_eq_true rfl, Nat.le_of_ble_eq_true rfl⟩) (zPS2 hPc hDc hK3 hXN) rfl rfl hl.1 rfl (lv_room (Nat.le_of_ble_eq_true rfl)) dX10_shift_69 ⟨Nat.le_of_ble_eq_true rfl, Nat.le_of_ble_eq_true rfl⟩) hS hFc hFc rfl (fun t H locs ht hB hk1 hS => ?_)
        obtain ⟨hP1, hD1⟩ := hB
        rw [ht] at hP1
        replace hP := z0 hP hD hk1 hP1 hI1
        clear hk1 hPc hDc hFc hP1 hD1 ht hI1
        refine lv_if_ne (tgt := 81) hx hb dX10_shift_72 rfl (fun c_4 => ?_) (fun c_4 => ?_)
        · have c_4 : (-200 : Int32).toInt ≤ sy.toInt ∧ sy.toInt ≤ (200 : Int32).toInt := zp_1 c_4
          refine lv_iload hx hb dX10_shift_81 (lv_at hl 6 rfl) ?_
          refine lv_iconst (v := 0) hx hb dX10_shift_83 rfl ?_
          refine lv_bipush (v := 20) hx hb dX10_shift_84 rfl ?_
          obtain ⟨hPc, hDc, hFc, hI1⟩ := zi_sub (wc := []) hP hD hS hA [] rfl rfl
          refine zcall (st1 := [.int (pI ((0 : Int32).toInt ≤ (nI rr).toInt ∧ (nI rr).toInt ≤ (20 : Int32).toInt))]) (va_runS (As := [.int (nI rr), .int 0, .int 20]) (rest := []) ⟨hx, hb, hml, hown, hts⟩ (k_isWithin l dC dI cI cZ cF H.size (nI rr) 0 20 ) (csS_14 hts rfl rfl ⟨Nat.le_of_ble_eq_true rfl, Nat.le_of_ble_eq_true rfl⟩) (zPS2 hPc hDc hK3 hXN) rfl rfl hl.1 rfl (lv_room (Nat.le_of_ble_eq_true rfl)) dX10_shift_86 ⟨Nat.le_of_ble_eq_true rfl, Nat.le_of_ble_eq_true rfl⟩) hS hFc hFc rfl (fun t H locs ht hB hk1 hS => ?_)
          obtain ⟨hP1, hD1⟩ := hB
          rw [ht] at hP1
          replace hP := z0 hP hD hk1 hP1 hI1
          clear hk1 hPc hDc hFc hP1 hD1 ht hI1
          refine lv_if_ne (tgt := 98) hx hb dX10_shift_89 rfl (fun c_5 => ?_) (fun c_5 => ?_)
          · have c_5 : (0 : Int32).toInt ≤ (nI rr).toInt ∧ (nI rr).toInt ≤ (20 : Int32).toInt := zp_1 c_5
            refine lv_aload hx hb dX10_shift_98 (lv_at hl 0 rfl) ?_
            refine va_get (D := (dC, dI)) (ci := 1) (v := .ref (la dn f0)) (C := RX2) (T := TX2) (N := 8) hx hb hts inX2 hown hK hP 16 rfl rfl 6 (Nat.le_of_ble_eq_true rfl) (hts _ mw_433) (fun _ h9 => h9) rfl dX10_shift_100 ?_
            refine va_get (D := (dC, dI)) (ci := 4) (v := .ref r5) (C := RX5) (T := TX5) (N := 6) hx hb hts inX5 hown hK hP 17 rfl rfl 2 (Nat.le_of_ble_eq_true rfl) (hts _ mw_391) (fun _ h9 => h9) rfl dX10_shift_103 ?_
            refine lv_astore (lv' := [(7, .ref r5), (6, .ref (fe f0)), (0, .ref x), (1, .int (nI f0)), (2, .int (nI kk)), (3, .int sx), (4, .int sy), (5, .int (nI rr))]) hx hb dX10_shift_106 hl (Nat.le_of_ble_eq_true rfl) rfl (fun ls hl => ?_)
            refine lv_aload hx hb dX10_shift_108 (lv_at hl 0 rfl) ?_
            refine lv_ifnonnull (tgt := 119) hx hb dX10_shift_110 rfl ?_
            refine lv_aload_n hx hb dX10_shift_119 rfl (lv_at hl 2 rfl) ?_
            refine va_get (D := (dC, dI)) (ci := 8) (v := .ref lw) (C := RX10) (T := TX10) (N := 13) hx hb hts inX10 hown hK hP 0 rfl rfl 1 (Nat.le_of_ble_eq_true rfl) (hts _ mw_310) (fun _ h9 => h9) rfl dX10_shift_120 ?_
            refine va_get (D := (dC, dI)) (ci := 3) (v := .ref dr) (C := RX4) (T := TX4) (N := 6) hx hb hts inX4 hown hK hP 2 rfl rfl 0 (Nat.le_of_ble_eq_true rfl) (hts _ mw_220) (fun _ h9 => h9) rfl dX10_shift_123 ?_
            refine lv_aload hx hb dX10_shift_126 (lv_at hl 0 rfl) ?_
            obtain ⟨hPc, hDc, hFc⟩ := zo_sub (wc := [_, _, _, _, _, _]) hP hD hS hA [9, 10, 11, 18, 19, 20] (by decide +kernel) rfl
            refine zcall (st1 := []) (va_runV (As := [.ref r5]) (rest := []) ⟨hx, hb, hml, hown, hts⟩ (k_Row_copyFrom l dC dI cI cZ cF H.size dr dx dy nd cd P Q rd r5 rx5 ry5 (nN (mn f0)) cap5 X5 Y5 (rgK (kd f0).toInt) (by first | with_reducible assumption | omega) (by first | with_reducible assumption | omega) (by first | with_reducible assumption | omega) (by first | with_reducible assumption | omega) (rgK_01 _)) (csV_120 hts rfl rfl ⟨Nat.le_of_ble_eq_true rfl, Nat.le_of_ble_eq_true rfl⟩) (zPV2 (q0 := 0) (ci := 6) hPc hDc hK3 hXN rfl rfl) rfl rfl hl.1 rfl (lv_room (Nat.le_of_ble_eq_true rfl)) dX10_shift_128 ⟨Nat.le_of_ble_eq_true rfl, Nat.le_of_ble_eq_true rfl⟩) hS hFc hFc rfl (fun t H locs ht hB hk1 hS => ?_)
            obtain ⟨P6, Q6, hcp7, hP1, hD1⟩ := hB
            rw [ht] at hP1
            obtain ⟨hP, hD⟩ := znQ (W2 := [_, _, _, _, _, _, _, _, _, (oc6 dr (.ref dx) (.ref dy) (nI (nN (mn f0))) (rgK (kd f0).toInt)), (oa dx cI cd P6), (oa dy cI cd Q6), _, _, _, _, _, _, _, _, _, _, _, _]) hP hD hk1 hFc hP1 hD1 [9, 10, 11, 18, 19, 20] zl_77 zl_77 [9, 10, 11, 18, 19, 20] (by decide +kernel) rfl rfl rfl rfl rfl
            clear hk1 hPc hDc hFc hP1 hD1 ht
            refine lv_aload hx hb dX10_shift_131 (lv_at hl 1 rfl) ?_
            obtain ⟨hPc, hDc, hFc, hI1⟩ := zi_sub (wc := [_, _]) hP hD hS hA [16, 17] rfl rfl
            refine zcall (st1 := [.int (pI (1 ≤ (kd f0).toInt ∧ (kd f0).toInt ≤ 5))]) (va_runV (As := []) (rest := []) ⟨hx, hb, hml, hown, hts⟩ (k_Feature_bends_r l dC dI cI cZ cF H.size (fe f0) lo5 (rk f0) (wd f0) (tw f0) (pa f0) (pb f0) (la dn f0) (kd f0) (st f0) (gb f0) (it f0) (nI we5) r5 ) (csV_97 hts rfl rfl ⟨Nat.le_of_ble_eq_true rfl, Nat.le_of_ble_eq_true rfl⟩) (zPV2 (q0 := 0) (ci := 1) hPc hDc hK3 hXN rfl rfl) rfl rfl hl.1 rfl (lv_room (Nat.le_of_ble_eq_true rfl)) dX10_shift_133 ⟨Nat.le_of_ble_eq_true rfl, Nat.le_of_ble_eq_true rfl⟩) hS hFc hFc rfl (fun t H locs ht hB hk1 hS => ?_)
            obtain ⟨hP1, hD1⟩ := hB
            rw [ht] at hP1
            replace hP := z0 hP hD hk1 hP1 hI1
            clear hk1 hPc hDc hFc hP1 hD1 ht hI1
            refine lv_if_eq (tgt := 158) hx hb dX10_shift_136 rfl (fun c_6 => ?_) (fun c_6 => ?_)
            · have c_6 : ¬ (1 ≤ (kd f0).toInt ∧ (kd f0).toInt ≤ 5) := zp_0 c_6
              refine lv_aload_n hx hb dX10_shift_158 rfl (lv_at hl 2 rfl) ?_
              refine va_get (D := (dC, dI)) (ci := 8) (v := .ref lw) (C := RX10) (T := TX10) (N := 13) hx hb hts inX10 hown hK hP 0 rfl rfl 1 (Nat.le_of_ble_eq_true rfl) (hts _ mw_310) (fun _ h9 => h9) rfl dX10_shift_159 ?_
              refine va_get (D := (dC, dI)) (ci := 3) (v := .ref dr) (C := RX4) (T := TX4) (N := 6) hx hb hts inX4 hown hK hP 2 rfl rfl 0 (Nat.le_of_ble_eq_true rfl) (hts _ mw_220) (fun _ h9 => h9) rfl dX10_shift_162 ?_
              refine lv_iload_n hx hb dX10_shift_165 rfl (lv_at hl 5 rfl) ?_
              refine lv_iload hx hb dX10_shift_166 (lv_at hl 6 rfl) ?_
              obtain ⟨hPc, hDc, hFc⟩ := zo_sub (wc := [_, _, _]) hP hD hS hA [9, 10, 11] rfl rfl
              refine zcall (st1 := []) (va_runV (As := [.int sx, .int sy]) (rest := []) ⟨hx, hb, hml, hown, hts⟩ (k_Row_carry l dC dI cI cZ cF H.size dr dx dy (nN (mn f0)) cd P6 Q6 (rgK (kd f0).toInt) sx sy (by first | with_reducible assumption | omega) (by first | with_reducible assumption | omega)) (csV_143 hts rfl rfl ⟨Nat.le_of_ble_eq_true rfl, Nat.le_of_ble_eq_true rfl⟩) (zPV2 (q0 := 0) (ci := 6) hPc hDc hK3 hXN rfl rfl) rfl rfl hl.1 rfl (lv_room (Nat.le_of_ble_eq_true rfl)) dX10_shift_168 ⟨Nat.le_of_ble_eq_true rfl, Nat.le_of_ble_eq_true rfl⟩) hS hFc hFc rfl (fun t H locs ht hB hk1 hS => ?_)
              obtain ⟨P7, Q7, hall7, hP1, hD1⟩ := hB
              rw [ht] at hP1
              obtain ⟨hP, hD⟩ := znQ (W2 := [_, _, _, _, _, _, _, _, _, _, (oa dx cI cd P7), (oa dy cI cd Q7), _, _, _, _, _, _, _, _, _, _, _, _]) hP hD hk1 hFc hP1 hD1 [9, 10, 11] zl_82 zl_82 [9, 10, 11] (by decide +kernel) rfl rfl rfl rfl rfl
              clear hk1 hPc hDc hFc hP1 hD1 ht
              have hv7 : ∀ k, k < nN (mn f0) → P7 k = (fun i => cF40 cx f0 i + sx) k ∧ Q7 k = (fun i => cF40 cy f0 i + sy) k := fun k hk => by rw [(hall7 k hk).1, (hall7 k hk).2, (hcp7 k hk).1, (hcp7 k hk).2, (hX5 k hk).1, (hX5 k hk).2]; exact ⟨rfl, rfl⟩
              refine lv_aload_n hx hb dX10_shift_171 rfl (lv_at hl 2 rfl) ?_
              refine lv_aload hx hb dX10_shift_172 (lv_at hl 1 rfl) ?_
              refine lv_iload_n hx hb dX10_shift_174 rfl (lv_at hl 3 rfl) ?_
              refine lv_iconst (v := 3) hx hb dX10_shift_175 rfl ?_
              obtain ⟨hPc, hDc, hFc⟩ := zo_part (cx := [_, _, _, _, _, _, _, _, _, _, _, _, _, _, _, _, _, _, _, _, _, _, _, _]) hP hD hS hA [0, 1, 2, 3, 4, 5, 6, 7, 8, 9, 10, 11, 12, 13, 16, 17, 18, 19, 20, 21, 22, 23, 14, 15] (by decide +kernel) rfl
              refine zcall (st1 := [.int 0]) (va_runV (As := [.ref (fe f0), .int (nI f0), .int 3]) (rest := []) ⟨hx, hb, hml, hown, hts⟩ (k_moveTo_m_r l dC dI cI cZ cF H.size cO e0 mi x sh lw ro bq bp dq dp lv sl sd ul su ea mc9 fa FA bs dn T ft FT V VX VY tn rk wd tw pa pb wh of9 we kd st gb it mn cx cy T_1 f L f0 own fe cl la sp SA lo5 lx5 ly5 ln5 LX5 LY5 we5 r5 rx5 ry5 cap5 X5 Y5 dr tg wy br bo aa tx ty nt TX TY rt wx wz nw WX WY rw dx dy cd P7 Q7 b1 b2 b3 b4 b5 b6 b7 b8 3 (hG9) (hH9) (hft9) (hO9) (hc5) (hT_1) (by first | with_reducible assumption | assumption) (by first | with_reducible assumption | assumption) (hst) (hwf) (hkn) (by first | with_reducible assumption | omega) (by have := hkn0; have := hsm.1; omega) (fun h => hbad ⟨((alM_cx hw1.1 hX5).trans (alM_lw (VX := fun i => cF40 cx f0 i + sx) (VY := fun i => cF40 cy f0 i + sy) (by first | with_reducible assumption | omega) (by first | with_reducible assumption | omega) (hsm.2 (by first | with_reducible assumption | omega)).1 hv7 hwf hkn)).mp h.1, Classical.byContradiction fun g => h.2 ((mv_alk hv7 hX5).mpr g)⟩)) (csV_117 hts rfl rfl ⟨Nat.le_of_ble_eq_true rfl, Nat.le_of_ble_eq_true rfl⟩) (zPVL (q0 := 0) (ci := 8) hPc hDc hK hXL hS hFc rfl rfl) rfl rfl hl.1 rfl (lv_room (Nat.le_of_ble_eq_true rfl)) dX10_shift_176 ⟨Nat.le_of_ble_eq_true rfl, Nat.le_of_ble_eq_true rfl⟩) hS hFc hFc rfl (fun t H locs ht hB hk1 hS => ?_)
              refine ex18 hB (fun ul8 su8 nt8 TX8 TY8 rt8 nw8 WX8 WY8 rw8 g08 g18 g28 g38 g48 g58 g68 g78 hB0 => ?_)
              clear hB
              obtain ⟨hP1, hD1⟩ := hB0
              rw [ht] at hP1
              obtain ⟨hP, hD⟩ := znP (W2 := [(oc8 x (.ref sh) (.ref lw) (.ref ro) (.ref bq) (.ref bp) (.ref dq) (.ref dp) (.ref lv) (.ref sl) (nI dn) sd ul8 su8), _, _, (oc6 tg (.ref tx) (.ref ty) (nI nt8) rt8), (oa tx cI 3 TX8), (oa ty cI 3 TY8), (oc6 wy (.ref wx) (.ref wz) (nI nw8) rw8), (oa wx cI 2 WX8), (oa wz cI 2 WY8), _, _, _, (oc0 br g08 g18 g28 g38), (oc0 bo g48 g58 g68 g78), _, _, _, _, _, _, _, _, _, _]) hP hD hk1 hFc hP1 hD1 zl_78 [] zl_81 zl_78 (by decide +kernel) rfl rfl rfl rfl rfl
              clear hk1 hPc hDc hFc hP1 hD1 ht
              obtain ⟨hP, hD⟩ := pl_bk (X := [_, _, _, _, _, _, _, _, _, _, _, _, _, _, _, _]) hT_1 hP rfl hc9_1 hD0_1 rfl
              obtain ⟨hP9, hD9⟩ := zu_part (cx := [_, _, _, _, _, _, _, _, _, _, _, _, _, _, _, _]) hP hD [true, true, true, true, true, true, true, true, true, true, true, true, true, true, true, true] rfl rfl
              rw [hQ9]
              exact W.zret (ty := .boolean) (v := 0) hx hb hr (rfl) (fun t ht hW => ⟨⟨rfl, ul8, su8, nt8, TX8, TY8, rt8, nw8, WX8, WY8, rw8, g08, g18, g28, g38, g48, g58, g68, g78, P7, Q7, by rw [ht]; exact hP9, hD9⟩, hS.F ht⟩) hS.2.2 dX10_shift_179
            · have c_6 : 1 ≤ (kd f0).toInt ∧ (kd f0).toInt ≤ 5 := zp_1 c_6
              exfalso; omega
          · have c_5 : ¬ ((0 : Int32).toInt ≤ (nI rr).toInt ∧ (nI rr).toInt ≤ (20 : Int32).toInt) := zp_0 c_5
            exfalso; omega
        · have c_4 : ¬ ((-200 : Int32).toInt ≤ sy.toInt ∧ sy.toInt ≤ (200 : Int32).toInt) := zp_0 c_4
          exfalso; omega
    · have c_2 : ¬ (st f0).toInt = 1 := zc_ne rfl rfl c_2
      exfalso; omega
  · have c_1 : ¬ (0 ≤ (nI kk).toInt ∧ (nI kk).toInt < (((nN (mn f0)) : Nat) : Int)) := zp_0 c_1
    exfalso; omega
end
section
set_option maxHeartbeats 4000000 in
set_option maxRecDepth 100000 in
theorem k_shiftw_y (l : Launch) (dC : Nat → ClassId) (dI : Nat → Nat → Nat) (cI cZ cF : ClassId) (sz : Nat) (cO : ClassId) (e0 : Nat) (mi : Nat) (x : Nat) (sh : Nat) (lw : Nat) (ro : Nat) (bq : Nat) (bp : Nat) (dq : Nat) (dp : Nat) (lv : Nat) (sl : Nat) (sd : Int32) (ul : Int32) (su : Int32) (ea : Nat) (mc9 : Int32) (fa : Nat) (FA : Nat → Option Nat) (bs : Nat) (dn : Nat) (T : Nat) (ft : Nat) (FT : Nat → Nat) (V : Nat → Nat → Nat → Int32) (VX : Nat → Nat → Int32) (VY : Nat → Nat → Int32) (tn : Nat → Int32) (rk : Nat → Int32) (wd : Nat → Int32) (tw : Nat → Int32) (pa : Nat → Int32) (pb : Nat → Int32) (wh : Nat → Int32) (of9 : Nat → Int32) (we : Nat → Int32) (kd : Nat → Int32) (st : Nat → Int32) (gb : Nat → Int32) (it : Nat → Int32) (mn : Nat → Int32) (cx : Nat → Int32) (cy : Nat → Int32) (L : List Nat) (f : Nat → va_E) (f0 : Nat) (dr : Nat) (tg : Nat) (wy : Nat) (br : Nat) (bo : Nat) (aa : Nat) (tx : Nat) (ty : Nat) (nt : Nat) (TX : Nat → Int32) (TY : Nat → Int32) (rt : Int32) (wx : Nat) (wz : Nat) (nw : Nat) (WX : Nat → Int32) (WY : Nat → Int32) (rw : Int32) (dx : Nat) (dy : Nat) (nd : Nat) (cd : Nat) (P : Nat → Int32) (Q : Nat → Int32) (rd : Int32) (b1 : Int32) (b2 : Int32) (b3 : Int32) (b4 : Int32) (b5 : Int32) (b6 : Int32) (b7 : Int32) (b8 : Int32) (kk : Nat) (rr : Nat) (sx : Int32) (sy : Int32) (hB : shB cI cO L f e0 FA ea bs dn T ft FT V VX VY tn rk wd tw pa pb wh of9 we kd st gb it mn cx cy) (hd5 : dn + 1 ≤ 512) (hf0 : f0 < ft) (htn : (tn f0).toInt = 0) (hst : (st f0).toInt = 1) (hwf : ∀ q, lvF ft st tn q → wfM mn cx cy q) (hkn : okN ft st tn kd mn) (hsm : mSm (kd f0).toInt (nN (mn f0)) (cF40 cx f0) (cF40 cy f0)) (hcd : 40 ≤ cd ∧ cd ≤ 1000) (hkk : kk < nN (mn f0)) (hrr : rr ≤ 20) (hdx : -200 ≤ sx.toInt ∧ sx.toInt ≤ 200) (hdy : -200 ≤ sy.toInt ∧ sy.toInt ≤ 200) (hkd : (kd f0).toInt = 0) (hlaw : lwM ft st tn kd mn cx cy f0 (nN (mn f0)) (fun i => cF40 cx f0 i + sx) (fun i => cF40 cy f0 i + sy)) (hmv : mvd (nN (mn f0)) (fun i => cF40 cx f0 i + sx) (fun i => cF40 cy f0 i + sy) (cF40 cx f0) (cF40 cy f0)) : zML l yX10_shift cX10_shift 8 (some .boolean) ({ frames := 9, cells := ft + 6, slots := 4 * ft + 2 * nN (mn f0) + 815, locals := 205 } : Room) [.ref x, .int (nI f0), .int (nI kk), .int sx, .int sy, .int (nI rr)] (dC, dI) (zTyO cI cZ cF cO) e0 mi ([(oc8 x (.ref sh) (.ref lw) (.ref ro) (.ref bq) (.ref bp) (.ref dq) (.ref dp) (.ref lv) (.ref sl) (nI dn) sd ul su), (oc10 sl mc9 (.ref ea) (nI T)), (oc3 lw (.ref dr) (.ref tg) (.ref wy) (.ref br) (.ref bo) (.ref aa)), (oc6 tg (.ref tx) (.ref ty) (nI nt) rt), (oa tx cI 3 TX), (oa ty cI 3 TY), (oc6 wy (.ref wx) (.ref wz) (nI nw) rw), (oa wx cI 2 WX), (oa wz cI 2 WY), (oc6 dr (.ref dx) (.ref dy) (nI nd) rd), (oa dx cI cd P), (oa dy cI cd Q), (oc0 br b1 b2 b3 b4), (oc0 bo b5 b6 b7 b8), (oc7 sh (.ref fa) (nI ft)), (oq fa cF 200 FA)] ++ va_pl L f) sz (some (.int 1)) (fun A t => ∃ (mc1 : Int32), ∃ (L1 : List Nat), ∃ (f1 : Nat → va_E), ∃ (ea1 : Nat), ∃ (nt1 : Nat), ∃ (TX1 : Nat → Int32), ∃ (TY1 : Nat → Int32), ∃ (rt1 : Int32), ∃ (nw1 : Nat), ∃ (WX1 : Nat → Int32), ∃ (WY1 : Nat → Int32), ∃ (rw1 : Int32), ∃ (d5 : Int32), ∃ (d6 : Int32), ∃ (d7 : Int32), ∃ (d8 : Int32), ∃ (e5 : Int32), ∃ (e6 : Int32), ∃ (e7 : Int32), ∃ (e8 : Int32), ∃ (P1 : Nat → Int32), ∃ (Q1 : Nat → Int32), (shB cI cO L1 f1 e0 FA ea1 bs (dn + 1) (dn + 1) ft (upN FT (dn + 1) ft) (upN V (dn + 1) (vC (V dn) kd st gb it mn)) (upN VX (dn + 1) (fgX f0 (nN (mn f0)) (fun i => cF40 cx f0 i + sx) cx)) (upN VY (dn + 1) (fgX f0 (nN (mn f0)) (fun i => cF40 cy f0 i + sy) cy)) tn rk wd tw pa pb (upd wh (dn + 1) (3 : Int32)) (upd of9 (dn + 1) (nI f0)) (upd we (dn + 1) (0 : Int32)) kd st gb it mn (fgX f0 (nN (mn f0)) (fun i => cF40 cx f0 i + sx) cx) (fgX f0 (nN (mn f0)) (fun i => cF40 cy f0 i + sy) cy)) ∧ zPD (dC, dI) classes A ([(oc8 x (.ref sh) (.ref lw) (.ref ro) (.ref bq) (.ref bp) (.ref dq) (.ref dp) (.ref lv) (.ref sl) (nI (dn + 1)) sd ul 0), (oc10 sl mc1 (.ref ea1) (nI (dn + 1))), (oc3 lw (.ref dr) (.ref tg) (.ref wy) (.ref br) (.ref bo) (.ref aa)), (oc6 tg (.ref tx) (.ref ty) (nI nt1) rt1), (oa tx cI 3 TX1), (oa ty cI 3 TY1), (oc6 wy (.ref wx) (.ref wz) (nI nw1) rw1), (oa wx cI 2 WX1), (oa wz cI 2 WY1), (oc6 dr (.ref dx) (.ref dy) (nI (nN (mn f0))) (rgK (kd f0).toInt)), (oa dx cI cd P1), (oa dy cI cd Q1), (oc0 br d5 d6 d7 d8), (oc0 bo e5 e6 e7 e8), (oc7 sh (.ref fa) (nI ft)), (oq fa cF 200 FA)] ++ va_pl L1 f1) t.heap) (ft + 6) (4 * ft + 2 * nN (mn f0) + 815) := by
  refine zInL (own := "ScaleShop") (loc := [(0, .ref x), (1, .int (nI f0)), (2, .int (nI kk)), (3, .int sx), (4, .int sy), (5, .int (nI rr))]) rfl rfl rfl rfl (fun p e s m below meth c hx hb hr hts hown hlocks hml hnm9 A hA hS hP hD hK hXL hXN hK3 Q9 hQ9 ls hl => ?_)
  obtain ⟨own, fe, cl, la, sp, SA, hG9, hH9, hft9, hO9⟩ := hB
  obtain ⟨hG, hM, hdT, hT5, hO⟩ := M_0 hG9 hH9 hft9 hO9
  have h200 : ft ≤ 200 := hG.2.2.2.2.2.1.2.2.2.2.2
  have hFA9 := hG.2.2.2.2.2.2
  refine ex13 (sh_fc hG.1 hG.2.1 (Nat.le_refl _) hf0 htn) (fun lo5 lx5 ly5 ln5 LX5 LY5 we5 r5 rx5 ry5 cap5 X5 Y5 hc5 => ?_)
  have hc5 := fc_0 hc5
  have hb5 := hc5.2.2.1
  have hb6 := hc5.2.1
  have hat9 := lo_at hO (Nat.le_refl _) hf0 hc5.1.1 hc5.1.2.2.2 (by omega) hc5.1.2.1 hb5.2.2
  have hlv : lvF ft st tn f0 := ⟨hf0, hst, htn⟩
  have hwf0 := hwf f0 hlv
  have hw1 := hwf0.2.1
  have hkn0 := hkn f0 hlv
  have hX5 := hc5.2.2.2.2.1
  have hkk9 : (nI kk).toInt = ((kk : Nat) : Int) := nI_toInt (by omega)
  have hrr9 : (nI rr).toInt = ((rr : Nat) : Int) := nI_toInt (by omega)
  have e_m200 : (-200 : Int32).toInt = -200 := (by decide)
  have e_200 : (200 : Int32).toInt = 200 := (by decide)
  have e_0 : (0 : Int32).toInt = 0 := (by decide)
  have e_20 : (20 : Int32).toInt = 20 := (by decide)
  have hc9_1 : inPl L f [(oc1 (fe f0) (rk f0) (wd f0) (tw f0) (pa f0) (pb f0) (.ref lo5) (.ref (la dn f0)) .null), (oc4 (la dn f0) (kd f0) (st f0) (.ref r5) (gb f0) (it f0) (nI we5)), (oc6 r5 (.ref rx5) (.ref ry5) (nI (nN (mn f0))) (rgK (kd f0).toInt)), (oa rx5 cI cap5 X5), (oa ry5 cI cap5 Y5), (oc6 lo5 (.ref lx5) (.ref ly5) (nI ln5) 0), (oa lx5 cI (cl f0) LX5), (oa ly5 cI (cl f0) LY5)] := ⟨ce_pl hc5.1.1, ce_pl hc5.1.2.1, ce_pl hc5.1.2.2.1.1, ce_pl hc5.1.2.2.1.2.1, ce_pl hc5.1.2.2.1.2.2.1, ce_pl hc5.1.2.2.2.1, ce_pl hc5.1.2.2.2.2.1, ce_pl hc5.1.2.2.2.2.2.1, trivial⟩
  have hD0_1 := hD
  obtain ⟨T_1, hT_1, hP, hD⟩ := pl_oT hP hD hc9_1 (pw8 hc5 (by omega))
  obtain ⟨hP, hD⟩ := zre (W2 := ([_, _, _, _, _, _, _, _, _, _, _, _, _, _, _, _, _, _, _, _, _, _, _, _] ++ va_pl T_1 f)) hP hD rfl
  refine lv_aload_n hx hb dX10_shift_0 rfl (lv_at hl 0 rfl) ?_
  refine va_get (D := (dC, dI)) (ci := 8) (v := .ref sh) (C := RX10) (T := TX10) (N := 13) hx hb hts inX10 hown hK hP 0 rfl rfl 0 (Nat.le_of_ble_eq_true rfl) (hts _ mw_309) (fun _ h9 => h9) rfl dX10_shift_1 ?_
  refine lv_iload_n hx hb dX10_shift_4 rfl (lv_at hl 1 rfl) ?_
  obtain ⟨hPc, hDc, hFc, hI1⟩ := zi_sub (wc := [_, _]) hP hD hS hA [14, 15] rfl rfl
  refine zcall (st1 := [.ref (fe f0)]) (va_runV (As := [.int (nI f0)]) (rest := []) ⟨hx, hb, hml, hown, hts⟩ (k_Sheet_find l dC dI cI cZ cF s.heap.size sh fa ft FA f0 (fe f0) (by first | with_reducible assumption | omega) (by first | with_reducible assumption | omega) (hFA9 f0 (by first | with_reducible assumption | omega))) (csV_94 hts rfl rfl ⟨Nat.le_of_ble_eq_true rfl, Nat.le_of_ble_eq_true rfl⟩) (zPV2 (q0 := 0) (ci := 7) hPc hDc hK3 hXN rfl rfl) rfl rfl hl.1 rfl (lv_room (Nat.le_of_ble_eq_true rfl)) dX10_shift_5 ⟨Nat.zero_le _, Nat.zero_le _⟩) hS hFc hFc rfl (fun t H locs ht hB hk1 hS => ?_)
  obtain ⟨hP1, hD1⟩ := hB
  rw [ht] at hP1
  replace hP := z0 hP hD hk1 hP1 hI1
  clear hk1 hPc hDc hFc hP1 hD1 ht hI1
  refine lv_astore (lv' := [(6, .ref (fe f0)), (0, .ref x), (1, .int (nI f0)), (2, .int (nI kk)), (3, .int sx), (4, .int sy), (5, .int (nI rr))]) hx hb dX10_shift_8 hl (Nat.le_of_ble_eq_true rfl) rfl (fun ls hl => ?_)
  refine lv_aload hx hb dX10_shift_10 (lv_at hl 0 rfl) ?_
  refine lv_ifnull hx hb dX10_shift_12 ?_
  refine lv_aload hx hb dX10_shift_15 (lv_at hl 0 rfl) ?_
  refine lv_iload_n hx hb dX10_shift_17 rfl (lv_at hl 3 rfl) ?_
  obtain ⟨hPc, hDc, hFc, hI1⟩ := zi_sub (wc := [_, _, _]) hP hD hS hA [16, 17, 18] rfl rfl
  refine zcall (st1 := [.int (pI (0 ≤ (nI kk).toInt ∧ (nI kk).toInt < (((nN (mn f0)) : Nat) : Int)))]) (va_runV (As := [.int (nI kk)]) (rest := []) ⟨hx, hb, hml, hown, hts⟩ (k_Feature_mayHaveCorner_r l dC dI cI cZ cF H.size (fe f0) lo5 (rk f0) (wd f0) (tw f0) (pa f0) (pb f0) (la dn f0) (kd f0) (st f0) (gb f0) (it f0) (nI we5) r5 rx5 ry5 (nN (mn f0)) (nI kk) (rgK (kd f0).toInt) (by first | with_reducible assumption | omega)) (csV_119 hts rfl rfl ⟨Nat.le_of_ble_eq_true rfl, Nat.le_of_ble_eq_true rfl⟩) (zPV2 (q0 := 0) (ci := 1) hPc hDc hK3 hXN rfl rfl) rfl rfl hl.1 rfl (lv_room (Nat.le_of_ble_eq_true rfl)) dX10_shift_18 ⟨Nat.zero_le _, Nat.zero_le _⟩) hS hFc hFc rfl (fun t H locs ht hB hk1 hS => ?_)
  obtain ⟨hP1, hD1⟩ := hB
  rw [ht] at hP1
  replace hP := z0 hP hD hk1 hP1 hI1
  clear hk1 hPc hDc hFc hP1 hD1 ht hI1
  refine lv_if_ne (tgt := 30) hx hb dX10_shift_21 rfl (fun c_1 => ?_) (fun c_1 => ?_)
  · have c_1 : 0 ≤ (nI kk).toInt ∧ (nI kk).toInt < (((nN (mn f0)) : Nat) : Int) := zp_1 c_1
    refine lv_aload hx hb dX10_shift_30 (lv_at hl 0 rfl) ?_
    refine va_get (D := (dC, dI)) (ci := 1) (v := .ref (la dn f0)) (C := RX2) (T := TX2) (N := 8) hx hb hts inX2 hown hK hP 16 rfl rfl 6 (Nat.le_of_ble_eq_true rfl) (hts _ mw_433) (fun _ h9 => h9) rfl dX10_shift_32 ?_
    refine va_get (D := (dC, dI)) (ci := 4) (v := .int (st f0)) (C := RX5) (T := TX5) (N := 6) hx hb hts inX5 hown hK hP 17 rfl rfl 1 (Nat.le_of_ble_eq_true rfl) (hts _ mw_385) (fun _ h9 => h9) rfl dX10_shift_35 ?_
    refine lv_iconst (v := 1) hx hb dX10_shift_38 rfl ?_
    refine lv_icmp_eq (tgt := 48) hx hb dX10_shift_39 rfl (fun c_2 => ?_) (fun c_2 => ?_)
    · have c_2 : (st f0).toInt = 1 := zc_eq rfl rfl c_2
      refine lv_iload_n hx hb dX10_shift_48 rfl (lv_at hl 4 rfl) ?_
      refine lv_sipush (v := (-200)) hx hb dX10_shift_49 rfl ?_
      refine lv_sipush (v := 200) hx hb dX10_shift_52 rfl ?_
      obtain ⟨hPc, hDc, hFc, hI1⟩ := zi_sub (wc := []) hP hD hS hA [] rfl rfl
      refine zcall (st1 := [.int (pI ((-200 : Int32).toInt ≤ sx.toInt ∧ sx.toInt ≤ (200 : Int32).toInt))]) (va_runS (As := [.int sx, .int (-200), .int 200]) (rest := []) ⟨hx, hb, hml, hown, hts⟩ (k_isWithin l dC dI cI cZ cF H.size sx (-200) 200 ) (csS_14 hts rfl rfl ⟨Nat.le_of_ble_eq_true rfl, Nat.le_of_ble_eq_true rfl⟩) (zPS2 hPc hDc hK3 hXN) rfl rfl hl.1 rfl (lv_room (Nat.le_of_ble_eq_true rfl)) dX10_shift_55 ⟨Nat.zero_le _, Nat.zero_le _⟩) hS hFc hFc rfl (fun t H locs ht hB hk1 hS => ?_)
      obtain ⟨hP1, hD1⟩ := hB
      rw [ht] at hP1
      replace hP := z0 hP hD hk1 hP1 hI1
      clear hk1 hPc hDc hFc hP1 hD1 ht hI1
      refine lv_if_eq (tgt := 75) hx hb dX10_shift_58 rfl (fun c_3 => ?_) (fun c_3 => ?_)
      · have c_3 : ¬ ((-200 : Int32).toInt ≤ sx.toInt ∧ sx.toInt ≤ (200 : Int32).toInt) := zp_0 c_3
        exfalso; omega
      · have c_3 : (-200 : Int32).toInt ≤ sx.toInt ∧ sx.toInt ≤ (200 : Int32).toInt := zp_1 c_3
        refine lv_iload hx hb dX10_shift_61 (lv_at hl 5 rfl) ?_
        refine lv_sipush (v := (-200)) hx hb dX10_shift_63 rfl ?_
        refine lv_sipush (v := 200) hx hb dX10_shift_66 rfl ?_
        obtain ⟨hPc, hDc, hFc, hI1⟩ := zi_sub (wc := []) hP hD hS hA [] rfl rfl
        refine zcall (st1 := [.int (pI ((-200 : Int32).toInt ≤ sy.toInt ∧ sy.toInt ≤ (200 : Int32).toInt))]) (va_runS (As := [.int sy, .int (-200), .int 200]) (rest := []) ⟨hx, hb, hml, hown, hts⟩ (k_isWithin l dC dI cI cZ cF H.size sy (-200) 200 ) (csS_14 hts rfl rfl ⟨Nat.le_of_ble_eq_true rfl, Nat.le_of_ble_eq_true rfl⟩) (zPS2 hPc hDc hK3 hXN) rfl rfl hl.1 rfl (lv_room (Nat.le_of_ble_eq_true rfl)) dX10_shift_69 ⟨Nat.zero_le _, Nat.zero_le _⟩) hS hFc hFc rfl (fun t H locs ht hB hk1 hS => ?_)
        obtain ⟨hP1, hD1⟩ := hB
        rw [ht] at hP1
        replace hP := z0 hP hD hk1 hP1 hI1
        clear hk1 hPc hDc hFc hP1 hD1 ht hI1
        refine lv_if_ne (tgt := 81) hx hb dX10_shift_72 rfl (fun c_4 => ?_) (fun c_4 => ?_)
        · have c_4 : (-200 : Int32).toInt ≤ sy.toInt ∧ sy.toInt ≤ (200 : Int32).toInt := zp_1 c_4
          refine lv_iload hx hb dX10_shift_81 (lv_at hl 6 rfl) ?_
          refine lv_iconst (v := 0) hx hb dX10_shift_83 rfl ?_
          refine lv_bipush (v := 20) hx hb dX10_shift_84 rfl ?_
          obtain ⟨hPc, hDc, hFc, hI1⟩ := zi_sub (wc := []) hP hD hS hA [] rfl rfl
          refine zcall (st1 := [.int (pI ((0 : Int32).toInt ≤ (nI rr).toInt ∧ (nI rr).toInt ≤ (20 : Int32).toInt))]) (va_runS (As := [.int (nI rr), .int 0, .int 20]) (rest := []) ⟨hx, hb, hml, hown, hts⟩ (k_isWithin l dC dI cI cZ cF H.size (nI rr) 0 20 ) (csS_14 hts rfl rfl ⟨Nat.le_of_ble_eq_true rfl, Nat.le_of_ble_eq_true rfl⟩) (zPS2 hPc hDc hK3 hXN) rfl rfl hl.1 rfl (lv_room (Nat.le_of_ble_eq_true rfl)) dX10_shift_86 ⟨Nat.zero_le _, Nat.zero_le _⟩) hS hFc hFc rfl (fun t H locs ht hB hk1 hS => ?_)
          obtain ⟨hP1, hD1⟩ := hB
          rw [ht] at hP1
          replace hP := z0 hP hD hk1 hP1 hI1
          clear hk1 hPc hDc hFc hP1 hD1 ht hI1
          refine lv_if_ne (tgt := 98) hx hb dX10_shift_89 rfl (fun c_5 => ?_) (fun c_5 => ?_)
          · have c_5 : (0 : Int32).toInt ≤ (nI rr).toInt ∧ (nI rr).toInt ≤ (20 : Int32).toInt := zp_1 c_5
            refine lv_aload hx hb dX10_shift_98 (lv_at hl 0 rfl) ?_
            refine va_get (D := (dC, dI)) (ci := 1) (v := .ref (la dn f0)) (C := RX2) (T := TX2) (N := 8) hx hb hts inX2 hown hK hP 16 rfl rfl 6 (Nat.le_of_ble_eq_true rfl) (hts _ mw_433) (fun _ h9 => h9) rfl dX10_shift_100 ?_
            refine va_get (D := (dC, dI)) (ci := 4) (v := .ref r5) (C := RX5) (T := TX5) (N := 6) hx hb hts inX5 hown hK hP 17 rfl rfl 2 (Nat.le_of_ble_eq_true rfl) (hts _ mw_391) (fun _ h9 => h9) rfl dX10_shift_103 ?_
            refine lv_astore (lv' := [(7, .ref r5), (6, .ref (fe f0)), (0, .ref x), (1, .int (nI f0)), (2, .int (nI kk)), (3, .int sx), (4, .int sy), (5, .int (nI rr))]) hx hb dX10_shift_106 hl (Nat.le_of_ble_eq_true rfl) rfl (fun ls hl => ?_)
            refine lv_aload hx hb dX10_shift_108 (lv_at hl 0 rfl) ?_
            refine lv_ifnonnull (tgt := 119) hx hb dX10_shift_110 rfl ?_
            refine lv_aload_n hx hb dX10_shift_119 rfl (lv_at hl 2 rfl) ?_
            refine va_get (D := (dC, dI)) (ci := 8) (v := .ref lw) (C := RX10) (T := TX10) (N := 13) hx hb hts inX10 hown hK hP 0 rfl rfl 1 (Nat.le_of_ble_eq_true rfl) (hts _ mw_310) (fun _ h9 => h9) rfl dX10_shift_120 ?_
            refine va_get (D := (dC, dI)) (ci := 3) (v := .ref dr) (C := RX4) (T := TX4) (N := 6) hx hb hts inX4 hown hK hP 2 rfl rfl 0 (Nat.le_of_ble_eq_true rfl) (hts _ mw_220) (fun _ h9 => h9) rfl dX10_shift_123 ?_
            refine lv_aload hx hb dX10_shift_126 (lv_at hl 0 rfl) ?_
            obtain ⟨hPc, hDc, hFc⟩ := zo_sub (wc := [_, _, _, _, _, _]) hP hD hS hA [9, 10, 11, 18, 19, 20] (by decide +kernel) rfl
            refine zcall (st1 := []) (va_runV (As := [.ref r5]) (rest := []) ⟨hx, hb, hml, hown, hts⟩ (k_Row_copyFrom l dC dI cI cZ cF H.size dr dx dy nd cd P Q rd r5 rx5 ry5 (nN (mn f0)) cap5 X5 Y5 (rgK (kd f0).toInt) (by first | with_reducible assumption | omega) (by first | with_reducible assumption | omega) (by first | with_reducible assumption | omega) (by first | with_reducible assumption | omega) (rgK_01 _)) (csV_120 hts rfl rfl ⟨Nat.le_of_ble_eq_true rfl, Nat.le_of_ble_eq_true rfl⟩) (zPV2 (q0 := 0) (ci := 6) hPc hDc hK3 hXN rfl rfl) rfl rfl hl.1 rfl (lv_room (Nat.le_of_ble_eq_true rfl)) dX10_shift_128 ⟨Nat.zero_le _, Nat.zero_le _⟩) hS hFc hFc rfl (fun t H locs ht hB hk1 hS => ?_)
            obtain ⟨P6, Q6, hcp7, hP1, hD1⟩ := hB
            rw [ht] at hP1
            obtain ⟨hP, hD⟩ := znQ (W2 := [_, _, _, _, _, _, _, _, _, (oc6 dr (.ref dx) (.ref dy) (nI (nN (mn f0))) (rgK (kd f0).toInt)), (oa dx cI cd P6), (oa dy cI cd Q6), _, _, _, _, _, _, _, _, _, _, _, _]) hP hD hk1 hFc hP1 hD1 [9, 10, 11, 18, 19, 20] zl_77 zl_77 [9, 10, 11, 18, 19, 20] (by decide +kernel) rfl rfl rfl rfl rfl
            clear hk1 hPc hDc hFc hP1 hD1 ht
            refine lv_aload hx hb dX10_shift_131 (lv_at hl 1 rfl) ?_
            obtain ⟨hPc, hDc, hFc, hI1⟩ := zi_sub (wc := [_, _]) hP hD hS hA [16, 17] rfl rfl
            refine zcall (st1 := [.int (pI (1 ≤ (kd f0).toInt ∧ (kd f0).toInt ≤ 5))]) (va_runV (As := []) (rest := []) ⟨hx, hb, hml, hown, hts⟩ (k_Feature_bends_r l dC dI cI cZ cF H.size (fe f0) lo5 (rk f0) (wd f0) (tw f0) (pa f0) (pb f0) (la dn f0) (kd f0) (st f0) (gb f0) (it f0) (nI we5) r5 ) (csV_97 hts rfl rfl ⟨Nat.le_of_ble_eq_true rfl, Nat.le_of_ble_eq_true rfl⟩) (zPV2 (q0 := 0) (ci := 1) hPc hDc hK3 hXN rfl rfl) rfl rfl hl.1 rfl (lv_room (Nat.le_of_ble_eq_true rfl)) dX10_shift_133 ⟨Nat.zero_le _, Nat.zero_le _⟩) hS hFc hFc rfl (fun t H locs ht hB hk1 hS => ?_)
            obtain ⟨hP1, hD1⟩ := hB
            rw [ht] at hP1
            replace hP := z0 hP hD hk1 hP1 hI1
            clear hk1 hPc hDc hFc hP1 hD1 ht hI1
            refine lv_if_eq (tgt := 158) hx hb dX10_shift_136 rfl (fun c_6 => ?_) (fun c_6 => ?_)
            · have c_6 : ¬ (1 ≤ (kd f0).toInt ∧ (kd f0).toInt ≤ 5) := zp_0 c_6
              refine lv_aload_n hx hb dX10_shift_158 rfl (lv_at hl 2 rfl) ?_
              refine va_get (D := (dC, dI)) (ci := 8) (v := .ref lw) (C := RX10) (T := TX10) (N := 13) hx hb hts inX10 hown hK hP 0 rfl rfl 1 (Nat.le_of_ble_eq_true rfl) (hts _ mw_310) (fun _ h9 => h9) rfl dX10_shift_159 ?_
              refine va_get (D := (dC, dI)) (ci := 3) (v := .ref dr) (C := RX4) (T := TX4) (N := 6) hx hb hts inX4 hown hK hP 2 rfl rfl 0 (Nat.le_of_ble_eq_true rfl) (hts _ mw_220) (fun _ h9 => h9) rfl dX10_shift_162 ?_
              refine lv_iload_n hx hb dX10_shift_165 rfl (lv_at hl 5 rfl) ?_
              refine lv_iload hx hb dX10_shift_166 (lv_at hl 6 rfl) ?_
              obtain ⟨hPc, hDc, hFc⟩ := zo_sub (wc := [_, _, _]) hP hD hS hA [9, 10, 11] rfl rfl
              refine zcall (st1 := []) (va_runV (As := [.int sx, .int sy]) (rest := []) ⟨hx, hb, hml, hown, hts⟩ (k_Row_carry l dC dI cI cZ cF H.size dr dx dy (nN (mn f0)) cd P6 Q6 (rgK (kd f0).toInt) sx sy (by first | with_reducible assumption | omega) (by first | with_reducible assumption | omega)) (csV_143 hts rfl rfl ⟨Nat.le_of_ble_eq_true rfl, Nat.le_of_ble_eq_true rfl⟩) (zPV2 (q0 := 0) (ci := 6) hPc hDc hK3 hXN rfl rfl) rfl rfl hl.1 rfl (lv_room (Nat.le_of_ble_eq_true rfl)) dX10_shift_168 ⟨Nat.zero_le _, Nat.zero_le _⟩) hS hFc hFc rfl (fun t H locs ht hB hk1 hS => ?_)
              obtain ⟨P7, Q7, hall7, hP1, hD1⟩ := hB
              rw [ht] at hP1
              obtain ⟨hP, hD⟩ := znQ (W2 := [_, _, _, _, _, _, _, _, _, _, (oa dx cI cd P7), (oa dy cI cd Q7), _, _, _, _, _, _, _, _, _, _, _, _]) hP hD hk1 hFc hP1 hD1 [9, 10, 11] zl_82 zl_82 [9, 10, 11] (by decide +kernel) rfl rfl rfl rfl rfl
              clear hk1 hPc hDc hFc hP1 hD1 ht
              have hv7 : ∀ k, k < nN (mn f0) → P7 k = (fun i => cF40 cx f0 i + sx) k ∧ Q7 k = (fun i => cF40 cy f0 i + sy) k := fun k hk => by rw [(hall7 k hk).1, (hall7 k hk).2, (hcp7 k hk).1, (hcp7 k hk).2, (hX5 k hk).1, (hX5 k hk).2]; exact ⟨rfl, rfl⟩
              refine lv_aload_n hx hb dX10_shift_171 rfl (lv_at hl 2 rfl) ?_
              refine lv_aload hx hb dX10_shift_172 (lv_at hl 1 rfl) ?_
              refine lv_iload_n hx hb dX10_shift_174 rfl (lv_at hl 3 rfl) ?_
              refine lv_iconst (v := 3) hx hb dX10_shift_175 rfl ?_
              obtain ⟨hPc, hDc, hFc⟩ := zo_part (cx := [_, _, _, _, _, _, _, _, _, _, _, _, _, _, _, _, _, _, _, _, _, _, _, _]) hP hD hS hA [0, 1, 2, 3, 4, 5, 6, 7, 8, 9, 10, 11, 12, 13, 16, 17, 18, 19, 20, 21, 22, 23, 14, 15] (by decide +kernel) rfl
              refine zcall (st1 := [.int 1]) (va_runV (As := [.ref (fe f0), .int (nI f0), .int 3]) (rest := []) ⟨hx, hb, hml, hown, hts⟩ (k_moveTo_w_y l dC dI cI cZ cF H.size cO e0 mi x sh lw ro bq bp dq dp lv sl sd ul su ea mc9 fa FA bs dn T ft FT V VX VY tn rk wd tw pa pb wh of9 we kd st gb it mn cx cy T_1 f L f0 own fe cl la sp SA lo5 lx5 ly5 ln5 LX5 LY5 we5 r5 rx5 ry5 cap5 X5 Y5 dr tg wy br bo aa tx ty nt TX TY rt wx wz nw WX WY rw dx dy cd P7 Q7 b1 b2 b3 b4 b5 b6 b7 b8 3 (fgX f0 (nN (mn f0)) (fun i => cF40 cx f0 i + sx) cx) (fgX f0 (nN (mn f0)) (fun i => cF40 cy f0 i + sy) cy) (hG9) (hH9) (hft9) (hO9) (hc5) (hT_1) (by first | with_reducible assumption | assumption) (by first | with_reducible assumption | assumption) (hst) (hwf) (hkn) (by first | with_reducible assumption | omega) (by have := hkn0; have := hsm.1; omega) (by first | with_reducible assumption | omega) (((alW_cx hw1.1 hX5).trans (by have hn9 : nN (mn f0) = 1 := hsm.1 (by first | with_reducible assumption | omega); rw [hn9] at hv7 ⊢; exact alW_lw (VX := fun i => cF40 cx f0 i + sx) (VY := fun i => cF40 cy f0 i + sy) (by first | with_reducible assumption | omega) hv7 hwf hkn)).mpr hlaw) (fun h => absurd hmv ((mv_alk hv7 hX5).mp h)) (fun k hk => by rw [fgX_f k hk, fgX_f k hk]; exact hv7 k hk) (fun j hj => ⟨fgX_o (by first | with_reducible assumption | omega), fgX_o (by first | with_reducible assumption | omega)⟩)) (csV_117 hts rfl rfl ⟨Nat.le_of_ble_eq_true rfl, Nat.le_of_ble_eq_true rfl⟩) (zPVL (q0 := 0) (ci := 8) hPc hDc hK hXL hS hFc rfl rfl) rfl rfl hl.1 rfl (lv_room (Nat.le_of_ble_eq_true rfl)) dX10_shift_176 ⟨show (0 + (ft + 6)) ≤ ft + 6 by omega, show (0 + (4 * ft + 2 * nN (mn f0) + 815)) ≤ 4 * ft + 2 * nN (mn f0) + 815 by omega⟩) hS hFc hFc rfl (fun t H locs ht hB hk1 hS => ?_)
              refine ex20 hB (fun mc8 L8 f8 ea8 nt8 TX8 TY8 rt8 nw8 WX8 WY8 rw8 g08 g18 g28 g38 g48 g58 g68 g78 hB0 => ?_)
              clear hB
              obtain ⟨hB6, hP1, hD1⟩ := hB0
              rw [ht] at hP1
              obtain ⟨hP, hD⟩ := znP (W2 := [(oc8 x (.ref sh) (.ref lw) (.ref ro) (.ref bq) (.ref bp) (.ref dq) (.ref dp) (.ref lv) (.ref sl) (nI (dn + 1)) sd ul 0), (oc10 sl mc8 (.ref ea8) (nI (dn + 1))), (oc3 lw (.ref dr) (.ref tg) (.ref wy) (.ref br) (.ref bo) (.ref aa)), (oc6 tg (.ref tx) (.ref ty) (nI nt8) rt8), (oa tx cI 3 TX8), (oa ty cI 3 TY8), (oc6 wy (.ref wx) (.ref wz) (nI nw8) rw8), (oa wx cI 2 WX8), (oa wz cI 2 WY8), (oc6 dr (.ref dx) (.ref dy) (nI (nN (mn f0))) (rgK (kd f0).toInt)), (oa dx cI cd P7), (oa dy cI cd Q7), (oc0 br g08 g18 g28 g38), (oc0 bo g48 g58 g68 g78), (oc7 sh (.ref fa) (nI ft)), (oq fa cF 200 FA)]) hP hD hk1 hFc hP1 hD1 zl_78 [] zl_79 zl_80 (by decide +kernel) rfl rfl rfl rfl rfl
              clear hk1 hPc hDc hFc hP1 hD1 ht
              obtain ⟨hP9, hD9⟩ := zu_part (cx := [_, _, _, _, _, _, _, _, _, _, _, _, _, _, _, _]) hP hD [true, true, true, true, true, true, true, true, true, true, true, true, true, true, true, true] rfl rfl
              refine W.widen (k := ft + 6) (n := 4 * ft + 2 * nN (mn f0) + 815) (by omega) (by omega) ?_
              rw [hQ9]
              exact W.zret (ty := .boolean) (v := 1) hx hb hr (rfl) (fun t ht hW => ⟨⟨rfl, mc8, L8, f8, ea8, nt8, TX8, TY8, rt8, nw8, WX8, WY8, rw8, g08, g18, g28, g38, g48, g58, g68, g78, P7, Q7, (hB6), by rw [ht]; exact hP9, hD9⟩, hS.F ht⟩) hS.2.2 dX10_shift_179
            · have c_6 : 1 ≤ (kd f0).toInt ∧ (kd f0).toInt ≤ 5 := zp_1 c_6
              exfalso; omega
          · have c_5 : ¬ ((0 : Int32).toInt ≤ (nI rr).toInt ∧ (nI rr).toInt ≤ (20 : Int32).toInt) := zp_0 c_5
            exfalso; omega
        · have c_4 : ¬ ((-200 : Int32).toInt ≤ sy.toInt ∧ sy.toInt ≤ (200 : Int32).toInt) := zp_0 c_4
          exfalso; omega
    · have c_2 : ¬ (st f0).toInt = 1 := zc_ne rfl rfl c_2
      exfalso; omega
  · have c_1 : ¬ (0 ≤ (nI kk).toInt ∧ (nI kk).toInt < (((nN (mn f0)) : Nat) : Int)) := zp_0 c_1
    exfalso; omega
set_option maxHeartbeats 4000000 in
set_option maxRecDepth 100000 in
theorem k_shiftw_n (l : Launch) (dC : Nat → ClassId) (dI : Nat → Nat → Nat) (cI cZ cF : ClassId) (sz : Nat) (cO : ClassId) (e0 : Nat) (mi : Nat) (x : Nat) (sh : Nat) (lw : Nat) (ro : Nat) (bq : Nat) (bp : Nat) (dq : Nat) (dp : Nat) (lv : Nat) (sl : Nat) (sd : Int32) (ul : Int32) (su : Int32) (ea : Nat) (mc9 : Int32) (fa : Nat) (FA : Nat → Option Nat) (bs : Nat) (dn : Nat) (T : Nat) (ft : Nat) (FT : Nat → Nat) (V : Nat → Nat → Nat → Int32) (VX : Nat → Nat → Int32) (VY : Nat → Nat → Int32) (tn : Nat → Int32) (rk : Nat → Int32) (wd : Nat → Int32) (tw : Nat → Int32) (pa : Nat → Int32) (pb : Nat → Int32) (wh : Nat → Int32) (of9 : Nat → Int32) (we : Nat → Int32) (kd : Nat → Int32) (st : Nat → Int32) (gb : Nat → Int32) (it : Nat → Int32) (mn : Nat → Int32) (cx : Nat → Int32) (cy : Nat → Int32) (L : List Nat) (f : Nat → va_E) (f0 : Nat) (dr : Nat) (tg : Nat) (wy : Nat) (br : Nat) (bo : Nat) (aa : Nat) (tx : Nat) (ty : Nat) (nt : Nat) (TX : Nat → Int32) (TY : Nat → Int32) (rt : Int32) (wx : Nat) (wz : Nat) (nw : Nat) (WX : Nat → Int32) (WY : Nat → Int32) (rw : Int32) (dx : Nat) (dy : Nat) (nd : Nat) (cd : Nat) (P : Nat → Int32) (Q : Nat → Int32) (rd : Int32) (b1 : Int32) (b2 : Int32) (b3 : Int32) (b4 : Int32) (b5 : Int32) (b6 : Int32) (b7 : Int32) (b8 : Int32) (kk : Nat) (rr : Nat) (sx : Int32) (sy : Int32) (hB : shB cI cO L f e0 FA ea bs dn T ft FT V VX VY tn rk wd tw pa pb wh of9 we kd st gb it mn cx cy) (hf0 : f0 < ft) (htn : (tn f0).toInt = 0) (hst : (st f0).toInt = 1) (hwf : ∀ q, lvF ft st tn q → wfM mn cx cy q) (hkn : okN ft st tn kd mn) (hsm : mSm (kd f0).toInt (nN (mn f0)) (cF40 cx f0) (cF40 cy f0)) (hcd : 40 ≤ cd ∧ cd ≤ 1000) (hkk : kk < nN (mn f0)) (hrr : rr ≤ 20) (hdx : -200 ≤ sx.toInt ∧ sx.toInt ≤ 200) (hdy : -200 ≤ sy.toInt ∧ sy.toInt ≤ 200) (hkd : (kd f0).toInt = 0) (hbad : ¬ ((lwM ft st tn kd mn cx cy f0 (nN (mn f0)) (fun i => cF40 cx f0 i + sx) (fun i => cF40 cy f0 i + sy)) ∧ mvd (nN (mn f0)) (fun i => cF40 cx f0 i + sx) (fun i => cF40 cy f0 i + sy) (cF40 cx f0) (cF40 cy f0))) : zML l yX10_shift cX10_shift 8 (some .boolean) ({ frames := 6, cells := 0, slots := 0, locals := 146 } : Room) [.ref x, .int (nI f0), .int (nI kk), .int sx, .int sy, .int (nI rr)] (dC, dI) (zTyO cI cZ cF cO) e0 mi ([(oc8 x (.ref sh) (.ref lw) (.ref ro) (.ref bq) (.ref bp) (.ref dq) (.ref dp) (.ref lv) (.ref sl) (nI dn) sd ul su), (oc10 sl mc9 (.ref ea) (nI T)), (oc3 lw (.ref dr) (.ref tg) (.ref wy) (.ref br) (.ref bo) (.ref aa)), (oc6 tg (.ref tx) (.ref ty) (nI nt) rt), (oa tx cI 3 TX), (oa ty cI 3 TY), (oc6 wy (.ref wx) (.ref wz) (nI nw) rw), (oa wx cI 2 WX), (oa wz cI 2 WY), (oc6 dr (.ref dx) (.ref dy) (nI nd) rd), (oa dx cI cd P), (oa dy cI cd Q), (oc0 br b1 b2 b3 b4), (oc0 bo b5 b6 b7 b8), (oc7 sh (.ref fa) (nI ft)), (oq fa cF 200 FA)] ++ va_pl L f) sz (some (.int 0)) (fun A t => ∃ (ul1 : Int32), ∃ (su1 : Int32), ∃ (nt1 : Nat), ∃ (TX1 : Nat → Int32), ∃ (TY1 : Nat → Int32), ∃ (rt1 : Int32), ∃ (nw1 : Nat), ∃ (WX1 : Nat → Int32), ∃ (WY1 : Nat → Int32), ∃ (rw1 : Int32), ∃ (d5 : Int32), ∃ (d6 : Int32), ∃ (d7 : Int32), ∃ (d8 : Int32), ∃ (e5 : Int32), ∃ (e6 : Int32), ∃ (e7 : Int32), ∃ (e8 : Int32), ∃ (P1 : Nat → Int32), ∃ (Q1 : Nat → Int32), zPD (dC, dI) classes A ([(oc8 x (.ref sh) (.ref lw) (.ref ro) (.ref bq) (.ref bp) (.ref dq) (.ref dp) (.ref lv) (.ref sl) (nI dn) sd ul1 su1), (oc10 sl mc9 (.ref ea) (nI T)), (oc3 lw (.ref dr) (.ref tg) (.ref wy) (.ref br) (.ref bo) (.ref aa)), (oc6 tg (.ref tx) (.ref ty) (nI nt1) rt1), (oa tx cI 3 TX1), (oa ty cI 3 TY1), (oc6 wy (.ref wx) (.ref wz) (nI nw1) rw1), (oa wx cI 2 WX1), (oa wz cI 2 WY1), (oc6 dr (.ref dx) (.ref dy) (nI (nN (mn f0))) (rgK (kd f0).toInt)), (oa dx cI cd P1), (oa dy cI cd Q1), (oc0 br d5 d6 d7 d8), (oc0 bo e5 e6 e7 e8), (oc7 sh (.ref fa) (nI ft)), (oq fa cF 200 FA)] ++ va_pl L f) t.heap) 0 0 := by
  refine zInL (own := "ScaleShop") (loc := [(0, .ref x), (1, .int (nI f0)), (2, .int (nI kk)), (3, .int sx), (4, .int sy), (5, .int (nI rr))]) rfl rfl rfl rfl (fun p e s m below meth c hx hb hr hts hown hlocks hml hnm9 A hA hS hP hD hK hXL hXN hK3 Q9 hQ9 ls hl => ?_)
  obtain ⟨own, fe, cl, la, sp, SA, hG9, hH9, hft9, hO9⟩ := hB
  obtain ⟨hG, hM, hdT, hT5, hO⟩ := M_0 hG9 hH9 hft9 hO9
  have h200 : ft ≤ 200 := hG.2.2.2.2.2.1.2.2.2.2.2
  have hFA9 := hG.2.2.2.2.2.2
  refine ex13 (sh_fc hG.1 hG.2.1 (Nat.le_refl _) hf0 htn) (fun lo5 lx5 ly5 ln5 LX5 LY5 we5 r5 rx5 ry5 cap5 X5 Y5 hc5 => ?_)
  have hc5 := fc_0 hc5
  have hb5 := hc5.2.2.1
  have hb6 := hc5.2.1
  have hat9 := lo_at hO (Nat.le_refl _) hf0 hc5.1.1 hc5.1.2.2.2 (by omega) hc5.1.2.1 hb5.2.2
  have hlv : lvF ft st tn f0 := ⟨hf0, hst, htn⟩
  have hwf0 := hwf f0 hlv
  have hw1 := hwf0.2.1
  have hkn0 := hkn f0 hlv
  have hX5 := hc5.2.2.2.2.1
  have hkk9 : (nI kk).toInt = ((kk : Nat) : Int) := nI_toInt (by omega)
  have hrr9 : (nI rr).toInt = ((rr : Nat) : Int) := nI_toInt (by omega)
  have e_m200 : (-200 : Int32).toInt = -200 := (by decide)
  have e_200 : (200 : Int32).toInt = 200 := (by decide)
  have e_0 : (0 : Int32).toInt = 0 := (by decide)
  have e_20 : (20 : Int32).toInt = 20 := (by decide)
  have hc9_1 : inPl L f [(oc1 (fe f0) (rk f0) (wd f0) (tw f0) (pa f0) (pb f0) (.ref lo5) (.ref (la dn f0)) .null), (oc4 (la dn f0) (kd f0) (st f0) (.ref r5) (gb f0) (it f0) (nI we5)), (oc6 r5 (.ref rx5) (.ref ry5) (nI (nN (mn f0))) (rgK (kd f0).toInt)), (oa rx5 cI cap5 X5), (oa ry5 cI cap5 Y5), (oc6 lo5 (.ref lx5) (.ref ly5) (nI ln5) 0), (oa lx5 cI (cl f0) LX5), (oa ly5 cI (cl f0) LY5)] := ⟨ce_pl hc5.1.1, ce_pl hc5.1.2.1, ce_pl hc5.1.2.2.1.1, ce_pl hc5.1.2.2.1.2.1, ce_pl hc5.1.2.2.1.2.2.1, ce_pl hc5.1.2.2.2.1, ce_pl hc5.1.2.2.2.2.1, ce_pl hc5.1.2.2.2.2.2.1, trivial⟩
  have hD0_1 := hD
  obtain ⟨T_1, hT_1, hP, hD⟩ := pl_oT hP hD hc9_1 (pw8 hc5 (by omega))
  obtain ⟨hP, hD⟩ := zre (W2 := ([_, _, _, _, _, _, _, _, _, _, _, _, _, _, _, _, _, _, _, _, _, _, _, _] ++ va_pl T_1 f)) hP hD rfl
  refine lv_aload_n hx hb dX10_shift_0 rfl (lv_at hl 0 rfl) ?_
  refine va_get (D := (dC, dI)) (ci := 8) (v := .ref sh) (C := RX10) (T := TX10) (N := 13) hx hb hts inX10 hown hK hP 0 rfl rfl 0 (Nat.le_of_ble_eq_true rfl) (hts _ mw_309) (fun _ h9 => h9) rfl dX10_shift_1 ?_
  refine lv_iload_n hx hb dX10_shift_4 rfl (lv_at hl 1 rfl) ?_
  obtain ⟨hPc, hDc, hFc, hI1⟩ := zi_sub (wc := [_, _]) hP hD hS hA [14, 15] rfl rfl
  refine zcall (st1 := [.ref (fe f0)]) (va_runV (As := [.int (nI f0)]) (rest := []) ⟨hx, hb, hml, hown, hts⟩ (k_Sheet_find l dC dI cI cZ cF s.heap.size sh fa ft FA f0 (fe f0) (by first | with_reducible assumption | omega) (by first | with_reducible assumption | omega) (hFA9 f0 (by first | with_reducible assumption | omega))) (csV_94 hts rfl rfl ⟨Nat.le_of_ble_eq_true rfl, Nat.le_of_ble_eq_true rfl⟩) (zPV2 (q0 := 0) (ci := 7) hPc hDc hK3 hXN rfl rfl) rfl rfl hl.1 rfl (lv_room (Nat.le_of_ble_eq_true rfl)) dX10_shift_5 ⟨Nat.le_of_ble_eq_true rfl, Nat.le_of_ble_eq_true rfl⟩) hS hFc hFc rfl (fun t H locs ht hB hk1 hS => ?_)
  obtain ⟨hP1, hD1⟩ := hB
  rw [ht] at hP1
  replace hP := z0 hP hD hk1 hP1 hI1
  clear hk1 hPc hDc hFc hP1 hD1 ht hI1
  refine lv_astore (lv' := [(6, .ref (fe f0)), (0, .ref x), (1, .int (nI f0)), (2, .int (nI kk)), (3, .int sx), (4, .int sy), (5, .int (nI rr))]) hx hb dX10_shift_8 hl (Nat.le_of_ble_eq_true rfl) rfl (fun ls hl => ?_)
  refine lv_aload hx hb dX10_shift_10 (lv_at hl 0 rfl) ?_
  refine lv_ifnull hx hb dX10_shift_12 ?_
  refine lv_aload hx hb dX10_shift_15 (lv_at hl 0 rfl) ?_
  refine lv_iload_n hx hb dX10_shift_17 rfl (lv_at hl 3 rfl) ?_
  obtain ⟨hPc, hDc, hFc, hI1⟩ := zi_sub (wc := [_, _, _]) hP hD hS hA [16, 17, 18] rfl rfl
  refine zcall (st1 := [.int (pI (0 ≤ (nI kk).toInt ∧ (nI kk).toInt < (((nN (mn f0)) : Nat) : Int)))]) (va_runV (As := [.int (nI kk)]) (rest := []) ⟨hx, hb, hml, hown, hts⟩ (k_Feature_mayHaveCorner_r l dC dI cI cZ cF H.size (fe f0) lo5 (rk f0) (wd f0) (tw f0) (pa f0) (pb f0) (la dn f0) (kd f0) (st f0) (gb f0) (it f0) (nI we5) r5 rx5 ry5 (nN (mn f0)) (nI kk) (rgK (kd f0).toInt) (by first | with_reducible assumption | omega)) (csV_119 hts rfl rfl ⟨Nat.le_of_ble_eq_true rfl, Nat.le_of_ble_eq_true rfl⟩) (zPV2 (q0 := 0) (ci := 1) hPc hDc hK3 hXN rfl rfl) rfl rfl hl.1 rfl (lv_room (Nat.le_of_ble_eq_true rfl)) dX10_shift_18 ⟨Nat.le_of_ble_eq_true rfl, Nat.le_of_ble_eq_true rfl⟩) hS hFc hFc rfl (fun t H locs ht hB hk1 hS => ?_)
  obtain ⟨hP1, hD1⟩ := hB
  rw [ht] at hP1
  replace hP := z0 hP hD hk1 hP1 hI1
  clear hk1 hPc hDc hFc hP1 hD1 ht hI1
  refine lv_if_ne (tgt := 30) hx hb dX10_shift_21 rfl (fun c_1 => ?_) (fun c_1 => ?_)
  · have c_1 : 0 ≤ (nI kk).toInt ∧ (nI kk).toInt < (((nN (mn f0)) : Nat) : Int) := zp_1 c_1
    refine lv_aload hx hb dX10_shift_30 (lv_at hl 0 rfl) ?_
    refine va_get (D := (dC, dI)) (ci := 1) (v := .ref (la dn f0)) (C := RX2) (T := TX2) (N := 8) hx hb hts inX2 hown hK hP 16 rfl rfl 6 (Nat.le_of_ble_eq_true rfl) (hts _ mw_433) (fun _ h9 => h9) rfl dX10_shift_32 ?_
    refine va_get (D := (dC, dI)) (ci := 4) (v := .int (st f0)) (C := RX5) (T := TX5) (N := 6) hx hb hts inX5 hown hK hP 17 rfl rfl 1 (Nat.le_of_ble_eq_true rfl) (hts _ mw_385) (fun _ h9 => h9) rfl dX10_shift_35 ?_
    refine lv_iconst (v := 1) hx hb dX10_shift_38 rfl ?_
    refine lv_icmp_eq (tgt := 48) hx hb dX10_shift_39 rfl (fun c_2 => ?_) (fun c_2 => ?_)
    · have c_2 : (st f0).toInt = 1 := zc_eq rfl rfl c_2
      refine lv_iload_n hx hb dX10_shift_48 rfl (lv_at hl 4 rfl) ?_
      refine lv_sipush (v := (-200)) hx hb dX10_shift_49 rfl ?_
      refine lv_sipush (v := 200) hx hb dX10_shift_52 rfl ?_
      obtain ⟨hPc, hDc, hFc, hI1⟩ := zi_sub (wc := []) hP hD hS hA [] rfl rfl
      refine zcall (st1 := [.int (pI ((-200 : Int32).toInt ≤ sx.toInt ∧ sx.toInt ≤ (200 : Int32).toInt))]) (va_runS (As := [.int sx, .int (-200), .int 200]) (rest := []) ⟨hx, hb, hml, hown, hts⟩ (k_isWithin l dC dI cI cZ cF H.size sx (-200) 200 ) (csS_14 hts rfl rfl ⟨Nat.le_of_ble_eq_true rfl, Nat.le_of_ble_eq_true rfl⟩) (zPS2 hPc hDc hK3 hXN) rfl rfl hl.1 rfl (lv_room (Nat.le_of_ble_eq_true rfl)) dX10_shift_55 ⟨Nat.le_of_ble_eq_true rfl, Nat.le_of_ble_eq_true rfl⟩) hS hFc hFc rfl (fun t H locs ht hB hk1 hS => ?_)
      obtain ⟨hP1, hD1⟩ := hB
      rw [ht] at hP1
      replace hP := z0 hP hD hk1 hP1 hI1
      clear hk1 hPc hDc hFc hP1 hD1 ht hI1
      refine lv_if_eq (tgt := 75) hx hb dX10_shift_58 rfl (fun c_3 => ?_) (fun c_3 => ?_)
      · have c_3 : ¬ ((-200 : Int32).toInt ≤ sx.toInt ∧ sx.toInt ≤ (200 : Int32).toInt) := zp_0 c_3
        exfalso; omega
      · have c_3 : (-200 : Int32).toInt ≤ sx.toInt ∧ sx.toInt ≤ (200 : Int32).toInt := zp_1 c_3
        refine lv_iload hx hb dX10_shift_61 (lv_at hl 5 rfl) ?_
        refine lv_sipush (v := (-200)) hx hb dX10_shift_63 rfl ?_
        refine lv_sipush (v := 200) hx hb dX10_shift_66 rfl ?_
        obtain ⟨hPc, hDc, hFc, hI1⟩ := zi_sub (wc := []) hP hD hS hA [] rfl rfl
        refine zcall (st1 := [.int (pI ((-200 : Int32).toInt ≤ sy.toInt ∧ sy.toInt ≤ (200 : Int32).toInt))]) (va_runS (As := [.int sy, .int (-200), .int 200]) (rest := []) ⟨hx, hb, hml, hown, hts⟩ (k_isWithin l dC dI cI cZ cF H.size sy (-200) 200 ) (csS_14 hts rfl rfl ⟨Nat.le_of_ble_eq_true rfl, Nat.le_of_ble_eq_true rfl⟩) (zPS2 hPc hDc hK3 hXN) rfl rfl hl.1 rfl (lv_room (Nat.le_of_ble_eq_true rfl)) dX10_shift_69 ⟨Nat.le_of_ble_eq_true rfl, Nat.le_of_ble_eq_true rfl⟩) hS hFc hFc rfl (fun t H locs ht hB hk1 hS => ?_)
        obtain ⟨hP1, hD1⟩ := hB
        rw [ht] at hP1
        replace hP := z0 hP hD hk1 hP1 hI1
        clear hk1 hPc hDc hFc hP1 hD1 ht hI1
        refine lv_if_ne (tgt := 81) hx hb dX10_shift_72 rfl (fun c_4 => ?_) (fun c_4 => ?_)
        · have c_4 : (-200 : Int32).toInt ≤ sy.toInt ∧ sy.toInt ≤ (200 : Int32).toInt := zp_1 c_4
          refine lv_iload hx hb dX10_shift_81 (lv_at hl 6 rfl) ?_
          refine lv_iconst (v := 0) hx hb dX10_shift_83 rfl ?_
          refine lv_bipush (v := 20) hx hb dX10_shift_84 rfl ?_
          obtain ⟨hPc, hDc, hFc, hI1⟩ := zi_sub (wc := []) hP hD hS hA [] rfl rfl
          refine zcall (st1 := [.int (pI ((0 : Int32).toInt ≤ (nI rr).toInt ∧ (nI rr).toInt ≤ (20 : Int32).toInt))]) (va_runS (As := [.int (nI rr), .int 0, .int 20]) (rest := []) ⟨hx, hb, hml, hown, hts⟩ (k_isWithin l dC dI cI cZ cF H.size (nI rr) 0 20 ) (csS_14 hts rfl rfl ⟨Nat.le_of_ble_eq_true rfl, Nat.le_of_ble_eq_true rfl⟩) (zPS2 hPc hDc hK3 hXN) rfl rfl hl.1 rfl (lv_room (Nat.le_of_ble_eq_true rfl)) dX10_shift_86 ⟨Nat.le_of_ble_eq_true rfl, Nat.le_of_ble_eq_true rfl⟩) hS hFc hFc rfl (fun t H locs ht hB hk1 hS => ?_)
          obtain ⟨hP1, hD1⟩ := hB
          rw [ht] at hP1
          replace hP := z0 hP hD hk1 hP1 hI1
          clear hk1 hPc hDc hFc hP1 hD1 ht hI1
          refine lv_if_ne (tgt := 98) hx hb dX10_shift_89 rfl (fun c_5 => ?_) (fun c_5 => ?_)
          · have c_5 : (0 : Int32).toInt ≤ (nI rr).toInt ∧ (nI rr).toInt ≤ (20 : Int32).toInt := zp_1 c_5
            refine lv_aload hx hb dX10_shift_98 (lv_at hl 0 rfl) ?_
            refine va_get (D := (dC, dI)) (ci := 1) (v := .ref (la dn f0)) (C := RX2) (T := TX2) (N := 8) hx hb hts inX2 hown hK hP 16 rfl rfl 6 (Nat.le_of_ble_eq_true rfl) (hts _ mw_433) (fun _ h9 => h9) rfl dX10_shift_100 ?_
            refine va_get (D := (dC, dI)) (ci := 4) (v := .ref r5) (C := RX5) (T := TX5) (N := 6) hx hb hts inX5 hown hK hP 17 rfl rfl 2 (Nat.le_of_ble_eq_true rfl) (hts _ mw_391) (fun _ h9 => h9) rfl dX10_shift_103 ?_
            refine lv_astore (lv' := [(7, .ref r5), (6, .ref (fe f0)), (0, .ref x), (1, .int (nI f0)), (2, .int (nI kk)), (3, .int sx), (4, .int sy), (5, .int (nI rr))]) hx hb dX10_shift_106 hl (Nat.le_of_ble_eq_true rfl) rfl (fun ls hl => ?_)
            refine lv_aload hx hb dX10_shift_108 (lv_at hl 0 rfl) ?_
            refine lv_ifnonnull (tgt := 119) hx hb dX10_shift_110 rfl ?_
            refine lv_aload_n hx hb dX10_shift_119 rfl (lv_at hl 2 rfl) ?_
            refine va_get (D := (dC, dI)) (ci := 8) (v := .ref lw) (C := RX10) (T := TX10) (N := 13) hx hb hts inX10 hown hK hP 0 rfl rfl 1 (Nat.le_of_ble_eq_true rfl) (hts _ mw_310) (fun _ h9 => h9) rfl dX10_shift_120 ?_
            refine va_get (D := (dC, dI)) (ci := 3) (v := .ref dr) (C := RX4) (T := TX4) (N := 6) hx hb hts inX4 hown hK hP 2 rfl rfl 0 (Nat.le_of_ble_eq_true rfl) (hts _ mw_220) (fun _ h9 => h9) rfl dX10_shift_123 ?_
            refine lv_aload hx hb dX10_shift_126 (lv_at hl 0 rfl) ?_
            obtain ⟨hPc, hDc, hFc⟩ := zo_sub (wc := [_, _, _, _, _, _]) hP hD hS hA [9, 10, 11, 18, 19, 20] (by decide +kernel) rfl
            refine zcall (st1 := []) (va_runV (As := [.ref r5]) (rest := []) ⟨hx, hb, hml, hown, hts⟩ (k_Row_copyFrom l dC dI cI cZ cF H.size dr dx dy nd cd P Q rd r5 rx5 ry5 (nN (mn f0)) cap5 X5 Y5 (rgK (kd f0).toInt) (by first | with_reducible assumption | omega) (by first | with_reducible assumption | omega) (by first | with_reducible assumption | omega) (by first | with_reducible assumption | omega) (rgK_01 _)) (csV_120 hts rfl rfl ⟨Nat.le_of_ble_eq_true rfl, Nat.le_of_ble_eq_true rfl⟩) (zPV2 (q0 := 0) (ci := 6) hPc hDc hK3 hXN rfl rfl) rfl rfl hl.1 rfl (lv_room (Nat.le_of_ble_eq_true rfl)) dX10_shift_128 ⟨Nat.le_of_ble_eq_true rfl, Nat.le_of_ble_eq_true rfl⟩) hS hFc hFc rfl (fun t H locs ht hB hk1 hS => ?_)
            obtain ⟨P6, Q6, hcp7, hP1, hD1⟩ := hB
            rw [ht] at hP1
            obtain ⟨hP, hD⟩ := znQ (W2 := [_, _, _, _, _, _, _, _, _, (oc6 dr (.ref dx) (.ref dy) (nI (nN (mn f0))) (rgK (kd f0).toInt)), (oa dx cI cd P6), (oa dy cI cd Q6), _, _, _, _, _, _, _, _, _, _, _, _]) hP hD hk1 hFc hP1 hD1 [9, 10, 11, 18, 19, 20] zl_77 zl_77 [9, 10, 11, 18, 19, 20] (by decide +kernel) rfl rfl rfl rfl rfl
            clear hk1 hPc hDc hFc hP1 hD1 ht
            refine lv_aload hx hb dX10_shift_131 (lv_at hl 1 rfl) ?_
            obtain ⟨hPc, hDc, hFc, hI1⟩ := zi_sub (wc := [_, _]) hP hD hS hA [16, 17] rfl rfl
            refine zcall (st1 := [.int (pI (1 ≤ (kd f0).toInt ∧ (kd f0).toInt ≤ 5))]) (va_runV (As := []) (rest := []) ⟨hx, hb, hml, hown, hts⟩ (k_Feature_bends_r l dC dI cI cZ cF H.size (fe f0) lo5 (rk f0) (wd f0) (tw f0) (pa f0) (pb f0) (la dn f0) (kd f0) (st f0) (gb f0) (it f0) (nI we5) r5 ) (csV_97 hts rfl rfl ⟨Nat.le_of_ble_eq_true rfl, Nat.le_of_ble_eq_true rfl⟩) (zPV2 (q0 := 0) (ci := 1) hPc hDc hK3 hXN rfl rfl) rfl rfl hl.1 rfl (lv_room (Nat.le_of_ble_eq_true rfl)) dX10_shift_133 ⟨Nat.le_of_ble_eq_true rfl, Nat.le_of_ble_eq_true rfl⟩) hS hFc hFc rfl (fun t H locs ht hB hk1 hS => ?_)
            obtain ⟨hP1, hD1⟩ := hB
            rw [ht] at hP1
            replace hP := z0 hP hD hk1 hP1 hI1
            clear hk1 hPc hDc hFc hP1 hD1 ht hI1
            refine lv_if_eq (tgt := 158) hx hb dX10_shift_136 rfl (fun c_6 => ?_) (fun c_6 => ?_)
            · have c_6 : ¬ (1 ≤ (kd f0).toInt ∧ (kd f0).toInt ≤ 5) := zp_0 c_6
              refine lv_aload_n hx hb dX10_shift_158 rfl (lv_at hl 2 rfl) ?_
              refine va_get (D := (dC, dI)) (ci := 8) (v := .ref lw) (C := RX10) (T := TX10) (N := 13) hx hb hts inX10 hown hK hP 0 rfl rfl 1 (Nat.le_of_ble_eq_true rfl) (hts _ mw_310) (fun _ h9 => h9) rfl dX10_shift_159 ?_
              refine va_get (D := (dC, dI)) (ci := 3) (v := .ref dr) (C := RX4) (T := TX4) (N := 6) hx hb hts inX4 hown hK hP 2 rfl rfl 0 (Nat.le_of_ble_eq_true rfl) (hts _ mw_220) (fun _ h9 => h9) rfl dX10_shift_162 ?_
              refine lv_iload_n hx hb dX10_shift_165 rfl (lv_at hl 5 rfl) ?_
              refine lv_iload hx hb dX10_shift_166 (lv_at hl 6 rfl) ?_
              obtain ⟨hPc, hDc, hFc⟩ := zo_sub (wc := [_, _, _]) hP hD hS hA [9, 10, 11] rfl rfl
              refine zcall (st1 := []) (va_runV (As := [.int sx, .int sy]) (rest := []) ⟨hx, hb, hml, hown, hts⟩ (k_Row_carry l dC dI cI cZ cF H.size dr dx dy (nN (mn f0)) cd P6 Q6 (rgK (kd f0).toInt) sx sy (by first | with_reducible assumption | omega) (by first | with_reducible assumption | omega)) (csV_143 hts rfl rfl ⟨Nat.le_of_ble_eq_true rfl, Nat.le_of_ble_eq_true rfl⟩) (zPV2 (q0 := 0) (ci := 6) hPc hDc hK3 hXN rfl rfl) rfl rfl hl.1 rfl (lv_room (Nat.le_of_ble_eq_true rfl)) dX10_shift_168 ⟨Nat.le_of_ble_eq_true rfl, Nat.le_of_ble_eq_true rfl⟩) hS hFc hFc rfl (fun t H locs ht hB hk1 hS => ?_)
              obtain ⟨P7, Q7, hall7, hP1, hD1⟩ := hB
              rw [ht] at hP1
              obtain ⟨hP, hD⟩ := znQ (W2 := [_, _, _, _, _, _, _, _, _, _, (oa dx cI cd P7), (oa dy cI cd Q7), _, _, _, _, _, _, _, _, _, _, _, _]) hP hD hk1 hFc hP1 hD1 [9, 10, 11] zl_82 zl_82 [9, 10, 11] (by decide +kernel) rfl rfl rfl rfl rfl
              clear hk1 hPc hDc hFc hP1 hD1 ht
              have hv7 : ∀ k, k < nN (mn f0) → P7 k = (fun i => cF40 cx f0 i + sx) k ∧ Q7 k = (fun i => cF40 cy f0 i + sy) k := fun k hk => by rw [(hall7 k hk).1, (hall7 k hk).2, (hcp7 k hk).1, (hcp7 k hk).2, (hX5 k hk).1, (hX5 k hk).2]; exact ⟨rfl, rfl⟩
              refine lv_aload_n hx hb dX10_shift_171 rfl (lv_at hl 2 rfl) ?_
              refine lv_aload hx hb dX10_shift_172 (lv_at hl 1 rfl) ?_
              refine lv_iload_n hx hb dX10_shift_174 rfl (lv_at hl 3 rfl) ?_
              refine lv_iconst (v := 3) hx hb dX10_shift_175 rfl ?_
              obtain ⟨hPc, hDc, hFc⟩ := zo_part (cx := [_, _, _, _, _, _, _, _, _, _, _, _, _, _, _, _, _, _, _, _, _, _, _, _]) hP hD hS hA [0, 1, 2, 3, 4, 5, 6, 7, 8, 9, 10, 11, 12, 13, 16, 17, 18, 19, 20, 21, 22, 23, 14, 15] (by decide +kernel) rfl
              refine zcall (st1 := [.int 0]) (va_runV (As := [.ref (fe f0), .int (nI f0), .int 3]) (rest := []) ⟨hx, hb, hml, hown, hts⟩ (k_moveTo_w_r l dC dI cI cZ cF H.size cO e0 mi x sh lw ro bq bp dq dp lv sl sd ul su ea mc9 fa FA bs dn T ft FT V VX VY tn rk wd tw pa pb wh of9 we kd st gb it mn cx cy T_1 f L f0 own fe cl la sp SA lo5 lx5 ly5 ln5 LX5 LY5 we5 r5 rx5 ry5 cap5 X5 Y5 dr tg wy br bo aa tx ty nt TX TY rt wx wz nw WX WY rw dx dy cd P7 Q7 b1 b2 b3 b4 b5 b6 b7 b8 3 (hG9) (hH9) (hft9) (hO9) (hc5) (hT_1) (by first | with_reducible assumption | assumption) (by first | with_reducible assumption | assumption) (hst) (hwf) (hkn) (by first | with_reducible assumption | omega) (by have := hkn0; have := hsm.1; omega) (fun h => hbad ⟨((alW_cx hw1.1 hX5).trans (by have hn9 : nN (mn f0) = 1 := hsm.1 (by first | with_reducible assumption | omega); rw [hn9] at hv7 ⊢; exact alW_lw (VX := fun i => cF40 cx f0 i + sx) (VY := fun i => cF40 cy f0 i + sy) (by first | with_reducible assumption | omega) hv7 hwf hkn)).mp h.1, Classical.byContradiction fun g => h.2 ((mv_alk hv7 hX5).mpr g)⟩)) (csV_117 hts rfl rfl ⟨Nat.le_of_ble_eq_true rfl, Nat.le_of_ble_eq_true rfl⟩) (zPVL (q0 := 0) (ci := 8) hPc hDc hK hXL hS hFc rfl rfl) rfl rfl hl.1 rfl (lv_room (Nat.le_of_ble_eq_true rfl)) dX10_shift_176 ⟨Nat.le_of_ble_eq_true rfl, Nat.le_of_ble_eq_true rfl⟩) hS hFc hFc rfl (fun t H locs ht hB hk1 hS => ?_)
              refine ex18 hB (fun ul8 su8 nt8 TX8 TY8 rt8 nw8 WX8 WY8 rw8 g08 g18 g28 g38 g48 g58 g68 g78 hB0 => ?_)
              clear hB
              obtain ⟨hP1, hD1⟩ := hB0
              rw [ht] at hP1
              obtain ⟨hP, hD⟩ := znP (W2 := [(oc8 x (.ref sh) (.ref lw) (.ref ro) (.ref bq) (.ref bp) (.ref dq) (.ref dp) (.ref lv) (.ref sl) (nI dn) sd ul8 su8), _, _, (oc6 tg (.ref tx) (.ref ty) (nI nt8) rt8), (oa tx cI 3 TX8), (oa ty cI 3 TY8), (oc6 wy (.ref wx) (.ref wz) (nI nw8) rw8), (oa wx cI 2 WX8), (oa wz cI 2 WY8), _, _, _, (oc0 br g08 g18 g28 g38), (oc0 bo g48 g58 g68 g78), _, _, _, _, _, _, _, _, _, _]) hP hD hk1 hFc hP1 hD1 zl_78 [] zl_81 zl_78 (by decide +kernel) rfl rfl rfl rfl rfl
              clear hk1 hPc hDc hFc hP1 hD1 ht
              obtain ⟨hP, hD⟩ := pl_bk (X := [_, _, _, _, _, _, _, _, _, _, _, _, _, _, _, _]) hT_1 hP rfl hc9_1 hD0_1 rfl
              obtain ⟨hP9, hD9⟩ := zu_part (cx := [_, _, _, _, _, _, _, _, _, _, _, _, _, _, _, _]) hP hD [true, true, true, true, true, true, true, true, true, true, true, true, true, true, true, true] rfl rfl
              rw [hQ9]
              exact W.zret (ty := .boolean) (v := 0) hx hb hr (rfl) (fun t ht hW => ⟨⟨rfl, ul8, su8, nt8, TX8, TY8, rt8, nw8, WX8, WY8, rw8, g08, g18, g28, g38, g48, g58, g68, g78, P7, Q7, by rw [ht]; exact hP9, hD9⟩, hS.F ht⟩) hS.2.2 dX10_shift_179
            · have c_6 : 1 ≤ (kd f0).toInt ∧ (kd f0).toInt ≤ 5 := zp_1 c_6
              exfalso; omega
          · have c_5 : ¬ ((0 : Int32).toInt ≤ (nI rr).toInt ∧ (nI rr).toInt ≤ (20 : Int32).toInt) := zp_0 c_5
            exfalso; omega
        · have c_4 : ¬ ((-200 : Int32).toInt ≤ sy.toInt ∧ sy.toInt ≤ (200 : Int32).toInt) := zp_0 c_4
          exfalso; omega
    · have c_2 : ¬ (st f0).toInt = 1 := zc_ne rfl rfl c_2
      exfalso; omega
  · have c_1 : ¬ (0 ≤ (nI kk).toInt ∧ (nI kk).toInt < (((nN (mn f0)) : Nat) : Int)) := zp_0 c_1
    exfalso; omega
end
section
set_option maxHeartbeats 4000000 in
set_option maxRecDepth 100000 in
theorem k_square_4 (l : Launch) (dC : Nat → ClassId) (dI : Nat → Nat → Nat) (cI cZ cF : ClassId) (sz : Nat) (cO : ClassId) (e0 : Nat) (mi : Nat) (x : Nat) (sh : Nat) (lw : Nat) (ro : Nat) (bq : Nat) (bp : Nat) (dq : Nat) (dp : Nat) (lv : Nat) (sl : Nat) (sd : Int32) (ul : Int32) (su : Int32) (ea : Nat) (mc9 : Int32) (fa : Nat) (FA : Nat → Option Nat) (bs : Nat) (dn : Nat) (T : Nat) (ft : Nat) (FT : Nat → Nat) (V : Nat → Nat → Nat → Int32) (VX : Nat → Nat → Int32) (VY : Nat → Nat → Int32) (tn : Nat → Int32) (rk : Nat → Int32) (wd : Nat → Int32) (tw : Nat → Int32) (pa : Nat → Int32) (pb : Nat → Int32) (wh : Nat → Int32) (of9 : Nat → Int32) (we : Nat → Int32) (kd : Nat → Int32) (st : Nat → Int32) (gb : Nat → Int32) (it : Nat → Int32) (mn : Nat → Int32) (cx : Nat → Int32) (cy : Nat → Int32) (L : List Nat) (f : Nat → va_E) (f0 : Nat) (dr : Nat) (tg : Nat) (wy : Nat) (br : Nat) (bo : Nat) (aa : Nat) (tx : Nat) (ty : Nat) (nt : Nat) (TX : Nat → Int32) (TY : Nat → Int32) (rt : Int32) (wx : Nat) (wz : Nat) (nw : Nat) (WX : Nat → Int32) (WY : Nat → Int32) (rw : Int32) (dx : Nat) (dy : Nat) (nd : Nat) (cd : Nat) (P : Nat → Int32) (Q : Nat → Int32) (rd : Int32) (b1 : Int32) (b2 : Int32) (b3 : Int32) (b4 : Int32) (b5 : Int32) (b6 : Int32) (b7 : Int32) (b8 : Int32) (c1 : Int32) (c2 : Int32) (c3 : Int32) (c4 : Int32) (ms : Int32) (hB : shB cI cO L f e0 FA ea bs dn T ft FT V VX VY tn rk wd tw pa pb wh of9 we kd st gb it mn cx cy) (hf0 : f0 < ft) (htn : (tn f0).toInt = 0) (hst : (st f0).toInt = 1) (hkd5 : (kd f0).toInt = 5) (hms : 0 ≤ ms.toInt) (hwf : ∀ q, lvF ft st tn q → wfM mn cx cy q) (hkn : okN ft st tn kd mn) (hsm : mSm (kd f0).toInt (nN (mn f0)) (cF40 cx f0) (cF40 cy f0)) (hcd : 40 ≤ cd ∧ cd ≤ 1000) (hdf : ms.toInt < dfB (nN (mn f0)) (cF40 cx f0) (cF40 cy f0)) : zML l yX10_square cX10_square 5 (some .boolean) ({ frames := 3, cells := 0, slots := 0, locals := 65 } : Room) [.ref x, .int (nI f0), .int ms] (dC, dI) (zTyO cI cZ cF cO) e0 mi ([(oc8 x (.ref sh) (.ref lw) (.ref ro) (.ref bq) (.ref bp) (.ref dq) (.ref dp) (.ref lv) (.ref sl) (nI dn) sd ul su), (oc10 sl mc9 (.ref ea) (nI T)), (oc3 lw (.ref dr) (.ref tg) (.ref wy) (.ref br) (.ref bo) (.ref aa)), (oc6 tg (.ref tx) (.ref ty) (nI nt) rt), (oa tx cI 3 TX), (oa ty cI 3 TY), (oc6 wy (.ref wx) (.ref wz) (nI nw) rw), (oa wx cI 2 WX), (oa wz cI 2 WY), (oc6 dr (.ref dx) (.ref dy) (nI nd) rd), (oa dx cI cd P), (oa dy cI cd Q), (oc0 br b1 b2 b3 b4), (oc0 bo b5 b6 b7 b8), (oc0 bq c1 c2 c3 c4), (oc7 sh (.ref fa) (nI ft)), (oq fa cF 200 FA)] ++ va_pl L f) sz (some (.int 0)) (fun A t => ∃ (P1 : Nat → Int32), ∃ (Q1 : Nat → Int32), ∃ (c5 : Int32), ∃ (c6 : Int32), ∃ (c7 : Int32), ∃ (c8 : Int32), zPD (dC, dI) classes A ([(oc8 x (.ref sh) (.ref lw) (.ref ro) (.ref bq) (.ref bp) (.ref dq) (.ref dp) (.ref lv) (.ref sl) (nI dn) sd ul 4), (oc10 sl mc9 (.ref ea) (nI T)), (oc3 lw (.ref dr) (.ref tg) (.ref wy) (.ref br) (.ref bo) (.ref aa)), (oc6 tg (.ref tx) (.ref ty) (nI nt) rt), (oa tx cI 3 TX), (oa ty cI 3 TY), (oc6 wy (.ref wx) (.ref wz) (nI nw) rw), (oa wx cI 2 WX), (oa wz cI 2 WY), (oc6 dr (.ref dx) (.ref dy) (nI 4) 1), (oa dx cI cd P1), (oa dy cI cd Q1), (oc0 br b1 b2 b3 b4), (oc0 bo b5 b6 b7 b8), (oc0 bq c5 c6 c7 c8), (oc7 sh (.ref fa) (nI ft)), (oq fa cF 200 FA)] ++ va_pl L f) t.heap) 0 0 := by
  refine zInL (own := "ScaleShop") (loc := [(0, .ref x), (1, .int (nI f0)), (2, .int ms)]) rfl rfl rfl rfl (fun p e s m below meth c hx hb hr hts hown hlocks hml hnm9 A hA hS hP hD hK hXL hXN hK3 Q9 hQ9 ls hl => ?_)
  obtain ⟨own, fe, cl, la, sp, SA, hG9, hH9, hft9, hO9⟩ := hB
  obtain ⟨hG, hM, hdT, hT5, hO⟩ := M_0 hG9 hH9 hft9 hO9
  have h200 : ft ≤ 200 := hG.2.2.2.2.2.1.2.2.2.2.2
  have hFA9 := hG.2.2.2.2.2.2
  refine ex13 (sh_fc hG.1 hG.2.1 (Nat.le_refl _) hf0 htn) (fun lo5 lx5 ly5 ln5 LX5 LY5 we5 r5 rx5 ry5 cap5 X5 Y5 hc5 => ?_)
  have hc5 := fc_0 hc5
  have hb5 := hc5.2.2.1
  have hb6 := hc5.2.1
  have hat9 := lo_at hO (Nat.le_refl _) hf0 hc5.1.1 hc5.1.2.2.2 (by omega) hc5.1.2.1 hb5.2.2
  have hlv : lvF ft st tn f0 := ⟨hf0, hst, htn⟩
  have hwf0 := hwf f0 hlv
  have hw1 := hwf0.2.1
  have hkn0 := hkn f0 hlv
  have hX5 := hc5.2.2.2.2.1
  have hp5 := (pls_cg hX5).mpr hwf0.2.2
  have hc9_1 : inPl L f [(oc1 (fe f0) (rk f0) (wd f0) (tw f0) (pa f0) (pb f0) (.ref lo5) (.ref (la dn f0)) .null), (oc4 (la dn f0) (kd f0) (st f0) (.ref r5) (gb f0) (it f0) (nI we5)), (oc6 r5 (.ref rx5) (.ref ry5) (nI (nN (mn f0))) (rgK (kd f0).toInt)), (oa rx5 cI cap5 X5), (oa ry5 cI cap5 Y5), (oc6 lo5 (.ref lx5) (.ref ly5) (nI ln5) 0), (oa lx5 cI (cl f0) LX5), (oa ly5 cI (cl f0) LY5)] := ⟨ce_pl hc5.1.1, ce_pl hc5.1.2.1, ce_pl hc5.1.2.2.1.1, ce_pl hc5.1.2.2.1.2.1, ce_pl hc5.1.2.2.1.2.2.1, ce_pl hc5.1.2.2.2.1, ce_pl hc5.1.2.2.2.2.1, ce_pl hc5.1.2.2.2.2.2.1, trivial⟩
  have hD0_1 := hD
  obtain ⟨T_1, hT_1, hP, hD⟩ := pl_oT hP hD hc9_1 (pw8 hc5 (by omega))
  obtain ⟨hP, hD⟩ := zre (W2 := ([_, _, _, _, _, _, _, _, _, _, _, _, _, _, _, _, _, _, _, _, _, _, _, _, _] ++ va_pl T_1 f)) hP hD rfl
  refine lv_aload_n hx hb dX10_square_0 rfl (lv_at hl 0 rfl) ?_
  refine va_get (D := (dC, dI)) (ci := 8) (v := .ref sh) (C := RX10) (T := TX10) (N := 13) hx hb hts inX10 hown hK hP 0 rfl rfl 0 (Nat.le_of_ble_eq_true rfl) (hts _ mw_309) (fun _ h9 => h9) rfl dX10_square_1 ?_
  refine lv_iload_n hx hb dX10_square_4 rfl (lv_at hl 1 rfl) ?_
  obtain ⟨hPc, hDc, hFc, hI1⟩ := zi_sub (wc := [_, _]) hP hD hS hA [15, 16] rfl rfl
  refine zcall (st1 := [.ref (fe f0)]) (va_runV (As := [.int (nI f0)]) (rest := []) ⟨hx, hb, hml, hown, hts⟩ (k_Sheet_find l dC dI cI cZ cF s.heap.size sh fa ft FA f0 (fe f0) (by first | with_reducible assumption | omega) (by first | with_reducible assumption | omega) (hFA9 f0 (by first | with_reducible assumption | omega))) (csV_94 hts rfl rfl ⟨Nat.le_of_ble_eq_true rfl, Nat.le_of_ble_eq_true rfl⟩) (zPV2 (q0 := 0) (ci := 7) hPc hDc hK3 hXN rfl rfl) rfl rfl hl.1 rfl (lv_room (Nat.le_of_ble_eq_true rfl)) dX10_square_5 ⟨Nat.le_of_ble_eq_true rfl, Nat.le_of_ble_eq_true rfl⟩) hS hFc hFc rfl (fun t H locs ht hB hk1 hS => ?_)
  obtain ⟨hP1, hD1⟩ := hB
  rw [ht] at hP1
  replace hP := z0 hP hD hk1 hP1 hI1
  clear hk1 hPc hDc hFc hP1 hD1 ht hI1
  refine lv_astore_n (lv' := [(3, .ref (fe f0)), (0, .ref x), (1, .int (nI f0)), (2, .int ms)]) hx hb dX10_square_8 rfl hl (Nat.le_of_ble_eq_true rfl) rfl (fun ls hl => ?_)
  refine lv_aload_n hx hb dX10_square_9 rfl (lv_at hl 0 rfl) ?_
  refine lv_ifnonnull (tgt := 19) hx hb dX10_square_10 rfl ?_
  refine lv_aload_n hx hb dX10_square_19 rfl (lv_at hl 0 rfl) ?_
  refine va_get (D := (dC, dI)) (ci := 1) (v := .ref (la dn f0)) (C := RX2) (T := TX2) (N := 8) hx hb hts inX2 hown hK hP 17 rfl rfl 6 (Nat.le_of_ble_eq_true rfl) (hts _ mw_433) (fun _ h9 => h9) rfl dX10_square_20 ?_
  refine va_get (D := (dC, dI)) (ci := 4) (v := .int (st f0)) (C := RX5) (T := TX5) (N := 6) hx hb hts inX5 hown hK hP 18 rfl rfl 1 (Nat.le_of_ble_eq_true rfl) (hts _ mw_385) (fun _ h9 => h9) rfl dX10_square_23 ?_
  refine lv_iconst (v := 1) hx hb dX10_square_26 rfl ?_
  refine lv_icmp_eq (tgt := 36) hx hb dX10_square_27 rfl (fun c_1 => ?_) (fun c_1 => ?_)
  · have c_1 : (st f0).toInt = 1 := zc_eq rfl rfl c_1
    refine lv_aload_n hx hb dX10_square_36 rfl (lv_at hl 0 rfl) ?_
    refine va_get (D := (dC, dI)) (ci := 1) (v := .ref (la dn f0)) (C := RX2) (T := TX2) (N := 8) hx hb hts inX2 hown hK hP 17 rfl rfl 6 (Nat.le_of_ble_eq_true rfl) (hts _ mw_433) (fun _ h9 => h9) rfl dX10_square_37 ?_
    refine va_get (D := (dC, dI)) (ci := 4) (v := .int (kd f0)) (C := RX5) (T := TX5) (N := 6) hx hb hts inX5 hown hK hP 18 rfl rfl 0 (Nat.le_of_ble_eq_true rfl) (hts _ mw_381) (fun _ h9 => h9) rfl dX10_square_40 ?_
    refine lv_iconst (v := 5) hx hb dX10_square_43 rfl ?_
    refine lv_icmp_eq (tgt := 53) hx hb dX10_square_44 rfl (fun c_2 => ?_) (fun c_2 => ?_)
    · have c_2 : (kd f0).toInt = 5 := zc_eq rfl rfl c_2
      refine lv_iload_n hx hb dX10_square_53 rfl (lv_at hl 3 rfl) ?_
      refine lv_if_ge (tgt := 63) hx hb dX10_square_54 rfl (fun c_3 => ?_) (fun c_3 => ?_)
      · have c_3 : 0 ≤ ms.toInt := zc_le rfl rfl c_3
        refine lv_aload_n hx hb dX10_square_63 rfl (lv_at hl 0 rfl) ?_
        refine va_get (D := (dC, dI)) (ci := 1) (v := .ref (la dn f0)) (C := RX2) (T := TX2) (N := 8) hx hb hts inX2 hown hK hP 17 rfl rfl 6 (Nat.le_of_ble_eq_true rfl) (hts _ mw_433) (fun _ h9 => h9) rfl dX10_square_64 ?_
        refine va_get (D := (dC, dI)) (ci := 4) (v := .ref r5) (C := RX5) (T := TX5) (N := 6) hx hb hts inX5 hown hK hP 18 rfl rfl 2 (Nat.le_of_ble_eq_true rfl) (hts _ mw_391) (fun _ h9 => h9) rfl dX10_square_67 ?_
        refine lv_astore (lv' := [(4, .ref r5), (3, .ref (fe f0)), (0, .ref x), (1, .int (nI f0)), (2, .int ms)]) hx hb dX10_square_70 hl (Nat.le_of_ble_eq_true rfl) rfl (fun ls hl => ?_)
        refine lv_aload hx hb dX10_square_72 (lv_at hl 0 rfl) ?_
        refine lv_ifnonnull (tgt := 83) hx hb dX10_square_74 rfl ?_
        refine lv_aload_n hx hb dX10_square_83 rfl (lv_at hl 2 rfl) ?_
        refine va_get (D := (dC, dI)) (ci := 8) (v := .ref bq) (C := RX10) (T := TX10) (N := 13) hx hb hts inX10 hown hK hP 0 rfl rfl 3 (Nat.le_of_ble_eq_true rfl) (hts _ mw_312) (fun _ h9 => h9) rfl dX10_square_84 ?_
        refine lv_aload hx hb dX10_square_87 (lv_at hl 0 rfl) ?_
        obtain ⟨hPc, hDc, hFc⟩ := zo_sub (wc := [_, _, _, _]) hP hD hS hA [14, 19, 20, 21] (by decide +kernel) rfl
        refine zcall (st1 := []) (va_runV (As := [.ref r5]) (rest := []) ⟨hx, hb, hml, hown, hts⟩ (k_Box_cover l dC dI cI cZ cF H.size bq c1 c2 c3 c4 r5 rx5 ry5 (nN (mn f0)) cap5 X5 Y5 (rgK (kd f0).toInt) (by first | with_reducible assumption | omega) (by first | with_reducible assumption | omega) ((pls_nr hp5).1) ((pls_nr hp5).2) (by first | with_reducible assumption | omega)) (csV_129 hts rfl rfl ⟨Nat.le_of_ble_eq_true rfl, Nat.le_of_ble_eq_true rfl⟩) (zPV2 (q0 := 0) (ci := 0) hPc hDc hK3 hXN rfl rfl) rfl rfl hl.1 rfl (lv_room (Nat.le_of_ble_eq_true rfl)) dX10_square_89 ⟨Nat.le_of_ble_eq_true rfl, Nat.le_of_ble_eq_true rfl⟩) hS hFc hFc rfl (fun t H locs ht hB hk1 hS => ?_)
        obtain ⟨hP1, hD1⟩ := hB
        rw [ht] at hP1
        obtain ⟨hP, hD⟩ := znQ (W2 := [_, _, _, _, _, _, _, _, _, _, _, _, _, _, (oc0 bq (iI (mnI (X5 0).toInt X5 (nN (mn f0)))) (iI (mnI (Y5 0).toInt Y5 (nN (mn f0)))) (iI (mxI (X5 0).toInt X5 (nN (mn f0)))) (iI (mxI (Y5 0).toInt Y5 (nN (mn f0))))), _, _, _, _, _, _, _, _, _, _]) hP hD hk1 hFc hP1 hD1 [14, 19, 20, 21] zl_115 zl_115 [14, 19, 20, 21] (by decide +kernel) rfl rfl rfl rfl rfl
        clear hk1 hPc hDc hFc hP1 hD1 ht
        refine lv_aload_n hx hb dX10_square_92 rfl (lv_at hl 2 rfl) ?_
        refine va_get (D := (dC, dI)) (ci := 8) (v := .ref lw) (C := RX10) (T := TX10) (N := 13) hx hb hts inX10 hown hK hP 0 rfl rfl 1 (Nat.le_of_ble_eq_true rfl) (hts _ mw_310) (fun _ h9 => h9) rfl dX10_square_93 ?_
        refine va_get (D := (dC, dI)) (ci := 3) (v := .ref dr) (C := RX4) (T := TX4) (N := 6) hx hb hts inX4 hown hK hP 2 rfl rfl 0 (Nat.le_of_ble_eq_true rfl) (hts _ mw_220) (fun _ h9 => h9) rfl dX10_square_96 ?_
        refine lv_aload_n hx hb dX10_square_99 rfl (lv_at hl 2 rfl) ?_
        refine va_get (D := (dC, dI)) (ci := 8) (v := .ref bq) (C := RX10) (T := TX10) (N := 13) hx hb hts inX10 hown hK hP 0 rfl rfl 3 (Nat.le_of_ble_eq_true rfl) (hts _ mw_312) (fun _ h9 => h9) rfl dX10_square_100 ?_
        obtain ⟨hPc, hDc, hFc⟩ := zo_sub (wc := [_, _, _, _]) hP hD hS hA [9, 10, 11, 14] (by decide +kernel) rfl
        refine zcall (st1 := []) (va_runV (As := [.ref bq]) (rest := []) ⟨hx, hb, hml, hown, hts⟩ (k_Row_boxFrom l dC dI cI cZ cF H.size dr dx dy nd cd P Q rd bq (iI (mnI (X5 0).toInt X5 (nN (mn f0)))) (iI (mnI (Y5 0).toInt Y5 (nN (mn f0)))) (iI (mxI (X5 0).toInt X5 (nN (mn f0)))) (iI (mxI (Y5 0).toInt Y5 (nN (mn f0)))) (by first | with_reducible assumption | omega) (by first | with_reducible assumption | omega)) (csV_131 hts rfl rfl ⟨Nat.le_of_ble_eq_true rfl, Nat.le_of_ble_eq_true rfl⟩) (zPV2 (q0 := 0) (ci := 6) hPc hDc hK3 hXN rfl rfl) rfl rfl hl.1 rfl (lv_room (Nat.le_of_ble_eq_true rfl)) dX10_square_103 ⟨Nat.le_of_ble_eq_true rfl, Nat.le_of_ble_eq_true rfl⟩) hS hFc hFc rfl (fun t H locs ht hB hk1 hS => ?_)
        obtain ⟨hP1, hD1⟩ := hB
        rw [ht] at hP1
        obtain ⟨hP, hD⟩ := znQ (W2 := [_, _, _, _, _, _, _, _, _, (oc6 dr (.ref dx) (.ref dy) (nI 4) 1), (oa dx cI cd (upd (upd (upd (upd P 0 (iI (mnI (X5 0).toInt X5 (nN (mn f0))))) 1 (iI (mxI (X5 0).toInt X5 (nN (mn f0))))) 2 (iI (mxI (X5 0).toInt X5 (nN (mn f0))))) 3 (iI (mnI (X5 0).toInt X5 (nN (mn f0)))))), (oa dy cI cd (upd (upd (upd (upd Q 0 (iI (mnI (Y5 0).toInt Y5 (nN (mn f0))))) 1 (iI (mnI (Y5 0).toInt Y5 (nN (mn f0))))) 2 (iI (mxI (Y5 0).toInt Y5 (nN (mn f0))))) 3 (iI (mxI (Y5 0).toInt Y5 (nN (mn f0)))))), _, _, _, _, _, _, _, _, _, _, _, _, _]) hP hD hk1 hFc hP1 hD1 [9, 10, 11, 14] zl_116 zl_116 [9, 10, 11, 14] (by decide +kernel) rfl rfl rfl rfl rfl
        clear hk1 hPc hDc hFc hP1 hD1 ht
        obtain ⟨P7, hP7⟩ : ∃ z9 : Nat → Int32, z9 = upd (upd (upd (upd P 0 (iI (mnI (X5 0).toInt X5 (nN (mn f0))))) 1 (iI (mxI (X5 0).toInt X5 (nN (mn f0))))) 2 (iI (mxI (X5 0).toInt X5 (nN (mn f0))))) 3 (iI (mnI (X5 0).toInt X5 (nN (mn f0)))) := ⟨_, rfl⟩
        rw [← hP7] at hP hD
        obtain ⟨Q7, hQ7⟩ : ∃ z9 : Nat → Int32, z9 = upd (upd (upd (upd Q 0 (iI (mnI (Y5 0).toInt Y5 (nN (mn f0))))) 1 (iI (mnI (Y5 0).toInt Y5 (nN (mn f0))))) 2 (iI (mxI (Y5 0).toInt Y5 (nN (mn f0))))) 3 (iI (mxI (Y5 0).toInt Y5 (nN (mn f0)))) := ⟨_, rfl⟩
        rw [← hQ7] at hP hD
        obtain ⟨hP, hD⟩ := zre (W2 := ([_, _, _, _, _, _, _, _, _, _, _, _, _, _, _, _, _, _, _, _, _, _, _, _, _] ++ va_pl T_1 f)) hP hD rfl
        have hp0 : P7 0 = iI (mnI (X5 0).toInt X5 (nN (mn f0))) ∧ P7 1 = iI (mxI (X5 0).toInt X5 (nN (mn f0))) ∧ P7 2 = iI (mxI (X5 0).toInt X5 (nN (mn f0))) ∧ P7 3 = iI (mnI (X5 0).toInt X5 (nN (mn f0))) := (by rw [hP7]; exact bx_4)
        have hq0 : Q7 0 = iI (mnI (Y5 0).toInt Y5 (nN (mn f0))) ∧ Q7 1 = iI (mnI (Y5 0).toInt Y5 (nN (mn f0))) ∧ Q7 2 = iI (mxI (Y5 0).toInt Y5 (nN (mn f0))) ∧ Q7 3 = iI (mxI (Y5 0).toInt Y5 (nN (mn f0))) := (by rw [hQ7]; exact bx_5)
        obtain ⟨hp47, hdf7, ha47, han7⟩ := bx_sq hp5 (by omega) hp0 hq0
        have hdf8 : dfB (nN (mn f0)) X5 Y5 = dfB (nN (mn f0)) (cF40 cx f0) (cF40 cy f0) := (by have e1 := mnI_cg (z := (X5 0).toInt) (fun j hj => (hX5 j hj).1) _ (Nat.le_refl _); have e2 := mnI_cg (z := (Y5 0).toInt) (fun j hj => (hX5 j hj).2) _ (Nat.le_refl _); rw [dfB_eq, dfB_eq, e1.1, e1.2, e2.1, e2.2, ar2_cg hX5 _ (Nat.le_refl _), (hX5 0 (by omega)).1, (hX5 0 (by omega)).2])
        have hmn8 : ∀ j, iI (mnI (X5 0).toInt X5 (nN (mn f0))) = iI (bL (cF40 cx f0) (nN (mn f0))) ∧ iI (mxI (X5 0).toInt X5 (nN (mn f0))) = iI (bH (cF40 cx f0) (nN (mn f0))) ∧ iI (mnI (Y5 0).toInt Y5 (nN (mn f0))) = iI (bL (cF40 cy f0) (nN (mn f0))) ∧ iI (mxI (Y5 0).toInt Y5 (nN (mn f0))) = iI (bH (cF40 cy f0) (nN (mn f0))) := fun (_ : Nat) => (by have e1 := mnI_cg (z := (X5 0).toInt) (fun j hj => (hX5 j hj).1) _ (Nat.le_refl _); have e2 := mnI_cg (z := (Y5 0).toInt) (fun j hj => (hX5 j hj).2) _ (Nat.le_refl _); rw [e1.1, e1.2, e2.1, e2.2, (hX5 0 (by omega)).1, (hX5 0 (by omega)).2]; exact ⟨rfl, rfl, rfl, rfl⟩)
        have hm8 := hmn8 0
        have hlS : ((pls 4 P7 Q7 ∧ ((∀ i, i < edg 4 (1 : Int32) → eFr 4 P7 Q7 (1 : Int32) i (i + 1)) ∧ (¬ (6 : Int32).toInt = 6 ∨ ∀ k, k < 4 → eRt 4 P7 Q7 k)) ∧ ∀ q, q < ft → (q ≠ f0 → lvF ft st tn q → (apB (mnI (mnI (X5 0).toInt X5 (nN (mn f0))) P7 4) (mnI (mnI (Y5 0).toInt Y5 (nN (mn f0))) Q7 4) (mxI (mxI (X5 0).toInt X5 (nN (mn f0))) P7 4) (mxI (mxI (Y5 0).toInt Y5 (nN (mn f0))) Q7 4) (nN (mn q)) (cF40 cx q) (cF40 cy q) ∨ (asb (nN (mn f0)) X5 Y5 (rgK (kd f0).toInt) 4 P7 Q7 (1 : Int32) (nN (mn q)) (cF40 cx q) (cF40 cy q) (rgK (kd q).toInt)))))) ↔ lwS ft st tn kd mn cx cy f0 (nN (mn f0)) := (alB_cx (rg := rgK (kd f0).toInt) (rd := (1 : Int32)) hw1.1 hX5).trans (by rw [hkd5]; exact alB_lw (by have h9 := (hsm.2 (by omega)).1; unfold mnc at h9; rw [if_pos (by omega)] at h9; omega) hkd5 ⟨hp0.1.trans hm8.1, hq0.1.trans hm8.2.2.1⟩ ⟨hp0.2.1.trans hm8.2.1, hq0.2.1.trans hm8.2.2.1⟩ ⟨hp0.2.2.1.trans hm8.2.1, hq0.2.2.1.trans hm8.2.2.2⟩ ⟨hp0.2.2.2.trans hm8.1, hq0.2.2.2.trans hm8.2.2.2⟩ hwf hkn)
        refine lv_aload_n hx hb dX10_square_106 rfl (lv_at hl 2 rfl) ?_
        refine va_get (D := (dC, dI)) (ci := 8) (v := .ref lw) (C := RX10) (T := TX10) (N := 13) hx hb hts inX10 hown hK hP 0 rfl rfl 1 (Nat.le_of_ble_eq_true rfl) (hts _ mw_310) (fun _ h9 => h9) rfl dX10_square_107 ?_
        refine va_get (D := (dC, dI)) (ci := 3) (v := .ref dr) (C := RX4) (T := TX4) (N := 6) hx hb hts inX4 hown hK hP 2 rfl rfl 0 (Nat.le_of_ble_eq_true rfl) (hts _ mw_220) (fun _ h9 => h9) rfl dX10_square_110 ?_
        obtain ⟨hPc, hDc, hFc, hI1⟩ := zi_sub (wc := [_, _, _]) hP hD hS hA [9, 10, 11] rfl rfl
        refine zcall (st1 := [.int (nI (Int.natAbs (ar2 4 P7 Q7 4)))]) (va_runV (As := []) (rest := []) ⟨hx, hb, hml, hown, hts⟩ (k_Row_doubleArea l dC dI cI cZ cF H.size dr dx dy 4 cd P7 Q7 1 (by first | with_reducible assumption | omega) (by first | with_reducible assumption | omega) (hp47)) (csV_123 hts rfl rfl ⟨Nat.le_of_ble_eq_true rfl, Nat.le_of_ble_eq_true rfl⟩) (zPV2 (q0 := 0) (ci := 6) hPc hDc hK3 hXN rfl rfl) rfl rfl hl.1 rfl (lv_room (Nat.le_of_ble_eq_true rfl)) dX10_square_113 ⟨Nat.le_of_ble_eq_true rfl, Nat.le_of_ble_eq_true rfl⟩) hS hFc hFc rfl (fun t H locs ht hB hk1 hS => ?_)
        obtain ⟨hP1, hD1⟩ := hB
        rw [ht] at hP1
        replace hP := z0 hP hD hk1 hP1 hI1
        clear hk1 hPc hDc hFc hP1 hD1 ht hI1
        refine lv_aload hx hb dX10_square_116 (lv_at hl 0 rfl) ?_
        obtain ⟨hPc, hDc, hFc, hI1⟩ := zi_sub (wc := [_, _, _]) hP hD hS hA [19, 20, 21] rfl rfl
        refine zcall (st1 := [.int (nI (Int.natAbs (ar2 (nN (mn f0)) X5 Y5 (nN (mn f0))))), .int (nI (Int.natAbs (ar2 4 P7 Q7 4)))]) (va_runV (As := []) (rest := [.int (nI (Int.natAbs (ar2 4 P7 Q7 4)))]) ⟨hx, hb, hml, hown, hts⟩ (k_Row_doubleArea l dC dI cI cZ cF H.size r5 rx5 ry5 (nN (mn f0)) cap5 X5 Y5 (rgK (kd f0).toInt) (by first | with_reducible assumption | omega) (by first | with_reducible assumption | omega) (hp5)) (csV_123 hts rfl rfl ⟨Nat.le_of_ble_eq_true rfl, Nat.le_of_ble_eq_true rfl⟩) (zPV2 (q0 := 0) (ci := 6) hPc hDc hK3 hXN rfl rfl) rfl rfl hl.1 rfl (lv_room (Nat.le_of_ble_eq_true rfl)) dX10_square_118 ⟨Nat.le_of_ble_eq_true rfl, Nat.le_of_ble_eq_true rfl⟩) hS hFc hFc rfl (fun t H locs ht hB hk1 hS => ?_)
        obtain ⟨hP1, hD1⟩ := hB
        rw [ht] at hP1
        replace hP := z0 hP hD hk1 hP1 hI1
        clear hk1 hPc hDc hFc hP1 hD1 ht hI1
        refine lv_isub hx hb dX10_square_121 ?_
        refine zz_i (v := iI (((Int.natAbs (ar2 4 P7 Q7 4) : Nat) : Int) - ((Int.natAbs (ar2 (nN (mn f0)) X5 Y5 (nN (mn f0))) : Nat) : Int))) (nn_sub (by omega) (by omega)) ?_
        refine lv_iload_n hx hb dX10_square_122 rfl (lv_at hl 4 rfl) ?_
        refine lv_icmp_le (tgt := 132) hx hb dX10_square_123 rfl (fun c_4 => ?_) (fun c_4 => ?_)
        · have c_4 : (((Int.natAbs (ar2 4 P7 Q7 4) : Nat) : Int) - ((Int.natAbs (ar2 (nN (mn f0)) X5 Y5 (nN (mn f0))) : Nat) : Int)) ≤ ms.toInt := zc_le (iI_toInt (by omega)) rfl c_4
          exfalso; omega
        · have c_4 : ms.toInt < (((Int.natAbs (ar2 4 P7 Q7 4) : Nat) : Int) - ((Int.natAbs (ar2 (nN (mn f0)) X5 Y5 (nN (mn f0))) : Nat) : Int)) := zc_nle (iI_toInt (by omega)) rfl c_4
          refine lv_aload_n hx hb dX10_square_126 rfl (lv_at hl 2 rfl) ?_
          refine lv_iconst (v := 4) hx hb dX10_square_127 rfl ?_
          obtain ⟨hPc, hDc, hFc⟩ := zo_sub (wc := [_]) hP hD hS hA [0] rfl rfl
          refine zcall (st1 := [.int 0]) (va_runV (As := [.int 4]) (rest := []) ⟨hx, hb, hml, hown, hts⟩ (k_deny_4 l dC dI cI cZ cF H.size x sh lw ro bq bp dq dp lv sl sd ul su (nI dn) ) (csV_96 hts rfl rfl ⟨Nat.le_of_ble_eq_true rfl, Nat.le_of_ble_eq_true rfl⟩) (zPV2 (q0 := 0) (ci := 8) hPc hDc hK3 hXN rfl rfl) rfl rfl hl.1 rfl (lv_room (Nat.le_of_ble_eq_true rfl)) dX10_square_128 ⟨Nat.le_of_ble_eq_true rfl, Nat.le_of_ble_eq_true rfl⟩) hS hFc hFc rfl (fun t H locs ht hB hk1 hS => ?_)
          obtain ⟨hP1, hD1⟩ := hB
          rw [ht] at hP1
          obtain ⟨hP, hD⟩ := znQ (W2 := [(oc8 x (.ref sh) (.ref lw) (.ref ro) (.ref bq) (.ref bp) (.ref dq) (.ref dp) (.ref lv) (.ref sl) (nI dn) sd ul 4), _, _, _, _, _, _, _, _, _, _, _, _, _, _, _, _, _, _, _, _, _, _, _, _]) hP hD hk1 hFc hP1 hD1 [0] zl_68 zl_68 [0] (by decide +kernel) rfl rfl rfl rfl rfl
          clear hk1 hPc hDc hFc hP1 hD1 ht
          obtain ⟨hP, hD⟩ := pl_bk (X := [_, _, _, _, _, _, _, _, _, _, _, _, _, _, _, _, _]) hT_1 hP rfl hc9_1 hD0_1 rfl
          obtain ⟨hP9, hD9⟩ := zu_part (cx := [_, _, _, _, _, _, _, _, _, _, _, _, _, _, _, _, _]) hP hD [true, true, true, true, true, true, true, true, true, true, true, true, true, true, true, true, true] rfl rfl
          rw [hQ9]
          exact W.zret (ty := .boolean) (v := 0) hx hb hr (rfl) (fun t ht hW => ⟨⟨rfl, P7, Q7, (iI (mnI (X5 0).toInt X5 (nN (mn f0)))), (iI (mnI (Y5 0).toInt Y5 (nN (mn f0)))), (iI (mxI (X5 0).toInt X5 (nN (mn f0)))), (iI (mxI (Y5 0).toInt Y5 (nN (mn f0)))), by rw [ht]; exact hP9, hD9⟩, hS.F ht⟩) hS.2.2 dX10_square_131
      · have c_3 : ms.toInt < 0 := zc_nle rfl rfl c_3
        exfalso; omega
    · have c_2 : ¬ (kd f0).toInt = 5 := zc_ne rfl rfl c_2
      exfalso; omega
  · have c_1 : ¬ (st f0).toInt = 1 := zc_ne rfl rfl c_1
    exfalso; omega
set_option maxHeartbeats 4000000 in
set_option maxRecDepth 100000 in
theorem k_square_n (l : Launch) (dC : Nat → ClassId) (dI : Nat → Nat → Nat) (cI cZ cF : ClassId) (sz : Nat) (cO : ClassId) (e0 : Nat) (mi : Nat) (x : Nat) (sh : Nat) (lw : Nat) (ro : Nat) (bq : Nat) (bp : Nat) (dq : Nat) (dp : Nat) (lv : Nat) (sl : Nat) (sd : Int32) (ul : Int32) (su : Int32) (ea : Nat) (mc9 : Int32) (fa : Nat) (FA : Nat → Option Nat) (bs : Nat) (dn : Nat) (T : Nat) (ft : Nat) (FT : Nat → Nat) (V : Nat → Nat → Nat → Int32) (VX : Nat → Nat → Int32) (VY : Nat → Nat → Int32) (tn : Nat → Int32) (rk : Nat → Int32) (wd : Nat → Int32) (tw : Nat → Int32) (pa : Nat → Int32) (pb : Nat → Int32) (wh : Nat → Int32) (of9 : Nat → Int32) (we : Nat → Int32) (kd : Nat → Int32) (st : Nat → Int32) (gb : Nat → Int32) (it : Nat → Int32) (mn : Nat → Int32) (cx : Nat → Int32) (cy : Nat → Int32) (L : List Nat) (f : Nat → va_E) (f0 : Nat) (dr : Nat) (tg : Nat) (wy : Nat) (br : Nat) (bo : Nat) (aa : Nat) (tx : Nat) (ty : Nat) (nt : Nat) (TX : Nat → Int32) (TY : Nat → Int32) (rt : Int32) (wx : Nat) (wz : Nat) (nw : Nat) (WX : Nat → Int32) (WY : Nat → Int32) (rw : Int32) (dx : Nat) (dy : Nat) (nd : Nat) (cd : Nat) (P : Nat → Int32) (Q : Nat → Int32) (rd : Int32) (b1 : Int32) (b2 : Int32) (b3 : Int32) (b4 : Int32) (b5 : Int32) (b6 : Int32) (b7 : Int32) (b8 : Int32) (c1 : Int32) (c2 : Int32) (c3 : Int32) (c4 : Int32) (ms : Int32) (hB : shB cI cO L f e0 FA ea bs dn T ft FT V VX VY tn rk wd tw pa pb wh of9 we kd st gb it mn cx cy) (hf0 : f0 < ft) (htn : (tn f0).toInt = 0) (hst : (st f0).toInt = 1) (hkd5 : (kd f0).toInt = 5) (hms : 0 ≤ ms.toInt) (hwf : ∀ q, lvF ft st tn q → wfM mn cx cy q) (hkn : okN ft st tn kd mn) (hsm : mSm (kd f0).toInt (nN (mn f0)) (cF40 cx f0) (cF40 cy f0)) (hcd : 40 ≤ cd ∧ cd ≤ 1000) (hdf : dfB (nN (mn f0)) (cF40 cx f0) (cF40 cy f0) ≤ ms.toInt) (hlaw : ¬ lwS ft st tn kd mn cx cy f0 (nN (mn f0))) : zML l yX10_square cX10_square 5 (some .boolean) ({ frames := 5, cells := 0, slots := 0, locals := 116 } : Room) [.ref x, .int (nI f0), .int ms] (dC, dI) (zTyO cI cZ cF cO) e0 mi ([(oc8 x (.ref sh) (.ref lw) (.ref ro) (.ref bq) (.ref bp) (.ref dq) (.ref dp) (.ref lv) (.ref sl) (nI dn) sd ul su), (oc10 sl mc9 (.ref ea) (nI T)), (oc3 lw (.ref dr) (.ref tg) (.ref wy) (.ref br) (.ref bo) (.ref aa)), (oc6 tg (.ref tx) (.ref ty) (nI nt) rt), (oa tx cI 3 TX), (oa ty cI 3 TY), (oc6 wy (.ref wx) (.ref wz) (nI nw) rw), (oa wx cI 2 WX), (oa wz cI 2 WY), (oc6 dr (.ref dx) (.ref dy) (nI nd) rd), (oa dx cI cd P), (oa dy cI cd Q), (oc0 br b1 b2 b3 b4), (oc0 bo b5 b6 b7 b8), (oc0 bq c1 c2 c3 c4), (oc7 sh (.ref fa) (nI ft)), (oq fa cF 200 FA)] ++ va_pl L f) sz (some (.int 0)) (fun A t => ∃ (ul1 : Int32), ∃ (su1 : Int32), ∃ (nt1 : Nat), ∃ (TX1 : Nat → Int32), ∃ (TY1 : Nat → Int32), ∃ (rt1 : Int32), ∃ (nw1 : Nat), ∃ (WX1 : Nat → Int32), ∃ (WY1 : Nat → Int32), ∃ (rw1 : Int32), ∃ (d5 : Int32), ∃ (d6 : Int32), ∃ (d7 : Int32), ∃ (d8 : Int32), ∃ (e5 : Int32), ∃ (e6 : Int32), ∃ (e7 : Int32), ∃ (e8 : Int32), ∃ (P1 : Nat → Int32), ∃ (Q1 : Nat → Int32), ∃ (c5 : Int32), ∃ (c6 : Int32), ∃ (c7 : Int32), ∃ (c8 : Int32), zPD (dC, dI) classes A ([(oc8 x (.ref sh) (.ref lw) (.ref ro) (.ref bq) (.ref bp) (.ref dq) (.ref dp) (.ref lv) (.ref sl) (nI dn) sd ul1 su1), (oc10 sl mc9 (.ref ea) (nI T)), (oc3 lw (.ref dr) (.ref tg) (.ref wy) (.ref br) (.ref bo) (.ref aa)), (oc6 tg (.ref tx) (.ref ty) (nI nt1) rt1), (oa tx cI 3 TX1), (oa ty cI 3 TY1), (oc6 wy (.ref wx) (.ref wz) (nI nw1) rw1), (oa wx cI 2 WX1), (oa wz cI 2 WY1), (oc6 dr (.ref dx) (.ref dy) (nI 4) 1), (oa dx cI cd P1), (oa dy cI cd Q1), (oc0 br d5 d6 d7 d8), (oc0 bo e5 e6 e7 e8), (oc0 bq c5 c6 c7 c8), (oc7 sh (.ref fa) (nI ft)), (oq fa cF 200 FA)] ++ va_pl L f) t.heap) 0 0 := by
  refine zInL (own := "ScaleShop") (loc := [(0, .ref x), (1, .int (nI f0)), (2, .int ms)]) rfl rfl rfl rfl (fun p e s m below meth c hx hb hr hts hown hlocks hml hnm9 A hA hS hP hD hK hXL hXN hK3 Q9 hQ9 ls hl => ?_)
  obtain ⟨own, fe, cl, la, sp, SA, hG9, hH9, hft9, hO9⟩ := hB
  obtain ⟨hG, hM, hdT, hT5, hO⟩ := M_0 hG9 hH9 hft9 hO9
  have h200 : ft ≤ 200 := hG.2.2.2.2.2.1.2.2.2.2.2
  have hFA9 := hG.2.2.2.2.2.2
  refine ex13 (sh_fc hG.1 hG.2.1 (Nat.le_refl _) hf0 htn) (fun lo5 lx5 ly5 ln5 LX5 LY5 we5 r5 rx5 ry5 cap5 X5 Y5 hc5 => ?_)
  have hc5 := fc_0 hc5
  have hb5 := hc5.2.2.1
  have hb6 := hc5.2.1
  have hat9 := lo_at hO (Nat.le_refl _) hf0 hc5.1.1 hc5.1.2.2.2 (by omega) hc5.1.2.1 hb5.2.2
  have hlv : lvF ft st tn f0 := ⟨hf0, hst, htn⟩
  have hwf0 := hwf f0 hlv
  have hw1 := hwf0.2.1
  have hkn0 := hkn f0 hlv
  have hX5 := hc5.2.2.2.2.1
  have hp5 := (pls_cg hX5).mpr hwf0.2.2
  have hc9_1 : inPl L f [(oc1 (fe f0) (rk f0) (wd f0) (tw f0) (pa f0) (pb f0) (.ref lo5) (.ref (la dn f0)) .null), (oc4 (la dn f0) (kd f0) (st f0) (.ref r5) (gb f0) (it f0) (nI we5)), (oc6 r5 (.ref rx5) (.ref ry5) (nI (nN (mn f0))) (rgK (kd f0).toInt)), (oa rx5 cI cap5 X5), (oa ry5 cI cap5 Y5), (oc6 lo5 (.ref lx5) (.ref ly5) (nI ln5) 0), (oa lx5 cI (cl f0) LX5), (oa ly5 cI (cl f0) LY5)] := ⟨ce_pl hc5.1.1, ce_pl hc5.1.2.1, ce_pl hc5.1.2.2.1.1, ce_pl hc5.1.2.2.1.2.1, ce_pl hc5.1.2.2.1.2.2.1, ce_pl hc5.1.2.2.2.1, ce_pl hc5.1.2.2.2.2.1, ce_pl hc5.1.2.2.2.2.2.1, trivial⟩
  have hD0_1 := hD
  obtain ⟨T_1, hT_1, hP, hD⟩ := pl_oT hP hD hc9_1 (pw8 hc5 (by omega))
  obtain ⟨hP, hD⟩ := zre (W2 := ([_, _, _, _, _, _, _, _, _, _, _, _, _, _, _, _, _, _, _, _, _, _, _, _, _] ++ va_pl T_1 f)) hP hD rfl
  refine lv_aload_n hx hb dX10_square_0 rfl (lv_at hl 0 rfl) ?_
  refine va_get (D := (dC, dI)) (ci := 8) (v := .ref sh) (C := RX10) (T := TX10) (N := 13) hx hb hts inX10 hown hK hP 0 rfl rfl 0 (Nat.le_of_ble_eq_true rfl) (hts _ mw_309) (fun _ h9 => h9) rfl dX10_square_1 ?_
  refine lv_iload_n hx hb dX10_square_4 rfl (lv_at hl 1 rfl) ?_
  obtain ⟨hPc, hDc, hFc, hI1⟩ := zi_sub (wc := [_, _]) hP hD hS hA [15, 16] rfl rfl
  refine zcall (st1 := [.ref (fe f0)]) (va_runV (As := [.int (nI f0)]) (rest := []) ⟨hx, hb, hml, hown, hts⟩ (k_Sheet_find l dC dI cI cZ cF s.heap.size sh fa ft FA f0 (fe f0) (by first | with_reducible assumption | omega) (by first | with_reducible assumption | omega) (hFA9 f0 (by first | with_reducible assumption | omega))) (csV_94 hts rfl rfl ⟨Nat.le_of_ble_eq_true rfl, Nat.le_of_ble_eq_true rfl⟩) (zPV2 (q0 := 0) (ci := 7) hPc hDc hK3 hXN rfl rfl) rfl rfl hl.1 rfl (lv_room (Nat.le_of_ble_eq_true rfl)) dX10_square_5 ⟨Nat.le_of_ble_eq_true rfl, Nat.le_of_ble_eq_true rfl⟩) hS hFc hFc rfl (fun t H locs ht hB hk1 hS => ?_)
  obtain ⟨hP1, hD1⟩ := hB
  rw [ht] at hP1
  replace hP := z0 hP hD hk1 hP1 hI1
  clear hk1 hPc hDc hFc hP1 hD1 ht hI1
  refine lv_astore_n (lv' := [(3, .ref (fe f0)), (0, .ref x), (1, .int (nI f0)), (2, .int ms)]) hx hb dX10_square_8 rfl hl (Nat.le_of_ble_eq_true rfl) rfl (fun ls hl => ?_)
  refine lv_aload_n hx hb dX10_square_9 rfl (lv_at hl 0 rfl) ?_
  refine lv_ifnonnull (tgt := 19) hx hb dX10_square_10 rfl ?_
  refine lv_aload_n hx hb dX10_square_19 rfl (lv_at hl 0 rfl) ?_
  refine va_get (D := (dC, dI)) (ci := 1) (v := .ref (la dn f0)) (C := RX2) (T := TX2) (N := 8) hx hb hts inX2 hown hK hP 17 rfl rfl 6 (Nat.le_of_ble_eq_true rfl) (hts _ mw_433) (fun _ h9 => h9) rfl dX10_square_20 ?_
  refine va_get (D := (dC, dI)) (ci := 4) (v := .int (st f0)) (C := RX5) (T := TX5) (N := 6) hx hb hts inX5 hown hK hP 18 rfl rfl 1 (Nat.le_of_ble_eq_true rfl) (hts _ mw_385) (fun _ h9 => h9) rfl dX10_square_23 ?_
  refine lv_iconst (v := 1) hx hb dX10_square_26 rfl ?_
  refine lv_icmp_eq (tgt := 36) hx hb dX10_square_27 rfl (fun c_1 => ?_) (fun c_1 => ?_)
  · have c_1 : (st f0).toInt = 1 := zc_eq rfl rfl c_1
    refine lv_aload_n hx hb dX10_square_36 rfl (lv_at hl 0 rfl) ?_
    refine va_get (D := (dC, dI)) (ci := 1) (v := .ref (la dn f0)) (C := RX2) (T := TX2) (N := 8) hx hb hts inX2 hown hK hP 17 rfl rfl 6 (Nat.le_of_ble_eq_true rfl) (hts _ mw_433) (fun _ h9 => h9) rfl dX10_square_37 ?_
    refine va_get (D := (dC, dI)) (ci := 4) (v := .int (kd f0)) (C := RX5) (T := TX5) (N := 6) hx hb hts inX5 hown hK hP 18 rfl rfl 0 (Nat.le_of_ble_eq_true rfl) (hts _ mw_381) (fun _ h9 => h9) rfl dX10_square_40 ?_
    refine lv_iconst (v := 5) hx hb dX10_square_43 rfl ?_
    refine lv_icmp_eq (tgt := 53) hx hb dX10_square_44 rfl (fun c_2 => ?_) (fun c_2 => ?_)
    · have c_2 : (kd f0).toInt = 5 := zc_eq rfl rfl c_2
      refine lv_iload_n hx hb dX10_square_53 rfl (lv_at hl 3 rfl) ?_
      refine lv_if_ge (tgt := 63) hx hb dX10_square_54 rfl (fun c_3 => ?_) (fun c_3 => ?_)
      · have c_3 : 0 ≤ ms.toInt := zc_le rfl rfl c_3
        refine lv_aload_n hx hb dX10_square_63 rfl (lv_at hl 0 rfl) ?_
        refine va_get (D := (dC, dI)) (ci := 1) (v := .ref (la dn f0)) (C := RX2) (T := TX2) (N := 8) hx hb hts inX2 hown hK hP 17 rfl rfl 6 (Nat.le_of_ble_eq_true rfl) (hts _ mw_433) (fun _ h9 => h9) rfl dX10_square_64 ?_
        refine va_get (D := (dC, dI)) (ci := 4) (v := .ref r5) (C := RX5) (T := TX5) (N := 6) hx hb hts inX5 hown hK hP 18 rfl rfl 2 (Nat.le_of_ble_eq_true rfl) (hts _ mw_391) (fun _ h9 => h9) rfl dX10_square_67 ?_
        refine lv_astore (lv' := [(4, .ref r5), (3, .ref (fe f0)), (0, .ref x), (1, .int (nI f0)), (2, .int ms)]) hx hb dX10_square_70 hl (Nat.le_of_ble_eq_true rfl) rfl (fun ls hl => ?_)
        refine lv_aload hx hb dX10_square_72 (lv_at hl 0 rfl) ?_
        refine lv_ifnonnull (tgt := 83) hx hb dX10_square_74 rfl ?_
        refine lv_aload_n hx hb dX10_square_83 rfl (lv_at hl 2 rfl) ?_
        refine va_get (D := (dC, dI)) (ci := 8) (v := .ref bq) (C := RX10) (T := TX10) (N := 13) hx hb hts inX10 hown hK hP 0 rfl rfl 3 (Nat.le_of_ble_eq_true rfl) (hts _ mw_312) (fun _ h9 => h9) rfl dX10_square_84 ?_
        refine lv_aload hx hb dX10_square_87 (lv_at hl 0 rfl) ?_
        obtain ⟨hPc, hDc, hFc⟩ := zo_sub (wc := [_, _, _, _]) hP hD hS hA [14, 19, 20, 21] (by decide +kernel) rfl
        refine zcall (st1 := []) (va_runV (As := [.ref r5]) (rest := []) ⟨hx, hb, hml, hown, hts⟩ (k_Box_cover l dC dI cI cZ cF H.size bq c1 c2 c3 c4 r5 rx5 ry5 (nN (mn f0)) cap5 X5 Y5 (rgK (kd f0).toInt) (by first | with_reducible assumption | omega) (by first | with_reducible assumption | omega) ((pls_nr hp5).1) ((pls_nr hp5).2) (by first | with_reducible assumption | omega)) (csV_129 hts rfl rfl ⟨Nat.le_of_ble_eq_true rfl, Nat.le_of_ble_eq_true rfl⟩) (zPV2 (q0 := 0) (ci := 0) hPc hDc hK3 hXN rfl rfl) rfl rfl hl.1 rfl (lv_room (Nat.le_of_ble_eq_true rfl)) dX10_square_89 ⟨Nat.le_of_ble_eq_true rfl, Nat.le_of_ble_eq_true rfl⟩) hS hFc hFc rfl (fun t H locs ht hB hk1 hS => ?_)
        obtain ⟨hP1, hD1⟩ := hB
        rw [ht] at hP1
        obtain ⟨hP, hD⟩ := znQ (W2 := [_, _, _, _, _, _, _, _, _, _, _, _, _, _, (oc0 bq (iI (mnI (X5 0).toInt X5 (nN (mn f0)))) (iI (mnI (Y5 0).toInt Y5 (nN (mn f0)))) (iI (mxI (X5 0).toInt X5 (nN (mn f0)))) (iI (mxI (Y5 0).toInt Y5 (nN (mn f0))))), _, _, _, _, _, _, _, _, _, _]) hP hD hk1 hFc hP1 hD1 [14, 19, 20, 21] zl_115 zl_115 [14, 19, 20, 21] (by decide +kernel) rfl rfl rfl rfl rfl
        clear hk1 hPc hDc hFc hP1 hD1 ht
        refine lv_aload_n hx hb dX10_square_92 rfl (lv_at hl 2 rfl) ?_
        refine va_get (D := (dC, dI)) (ci := 8) (v := .ref lw) (C := RX10) (T := TX10) (N := 13) hx hb hts inX10 hown hK hP 0 rfl rfl 1 (Nat.le_of_ble_eq_true rfl) (hts _ mw_310) (fun _ h9 => h9) rfl dX10_square_93 ?_
        refine va_get (D := (dC, dI)) (ci := 3) (v := .ref dr) (C := RX4) (T := TX4) (N := 6) hx hb hts inX4 hown hK hP 2 rfl rfl 0 (Nat.le_of_ble_eq_true rfl) (hts _ mw_220) (fun _ h9 => h9) rfl dX10_square_96 ?_
        refine lv_aload_n hx hb dX10_square_99 rfl (lv_at hl 2 rfl) ?_
        refine va_get (D := (dC, dI)) (ci := 8) (v := .ref bq) (C := RX10) (T := TX10) (N := 13) hx hb hts inX10 hown hK hP 0 rfl rfl 3 (Nat.le_of_ble_eq_true rfl) (hts _ mw_312) (fun _ h9 => h9) rfl dX10_square_100 ?_
        obtain ⟨hPc, hDc, hFc⟩ := zo_sub (wc := [_, _, _, _]) hP hD hS hA [9, 10, 11, 14] (by decide +kernel) rfl
        refine zcall (st1 := []) (va_runV (As := [.ref bq]) (rest := []) ⟨hx, hb, hml, hown, hts⟩ (k_Row_boxFrom l dC dI cI cZ cF H.size dr dx dy nd cd P Q rd bq (iI (mnI (X5 0).toInt X5 (nN (mn f0)))) (iI (mnI (Y5 0).toInt Y5 (nN (mn f0)))) (iI (mxI (X5 0).toInt X5 (nN (mn f0)))) (iI (mxI (Y5 0).toInt Y5 (nN (mn f0)))) (by first | with_reducible assumption | omega) (by first | with_reducible assumption | omega)) (csV_131 hts rfl rfl ⟨Nat.le_of_ble_eq_true rfl, Nat.le_of_ble_eq_true rfl⟩) (zPV2 (q0 := 0) (ci := 6) hPc hDc hK3 hXN rfl rfl) rfl rfl hl.1 rfl (lv_room (Nat.le_of_ble_eq_true rfl)) dX10_square_103 ⟨Nat.le_of_ble_eq_true rfl, Nat.le_of_ble_eq_true rfl⟩) hS hFc hFc rfl (fun t H locs ht hB hk1 hS => ?_)
        obtain ⟨hP1, hD1⟩ := hB
        rw [ht] at hP1
        obtain ⟨hP, hD⟩ := znQ (W2 := [_, _, _, _, _, _, _, _, _, (oc6 dr (.ref dx) (.ref dy) (nI 4) 1), (oa dx cI cd (upd (upd (upd (upd P 0 (iI (mnI (X5 0).toInt X5 (nN (mn f0))))) 1 (iI (mxI (X5 0).toInt X5 (nN (mn f0))))) 2 (iI (mxI (X5 0).toInt X5 (nN (mn f0))))) 3 (iI (mnI (X5 0).toInt X5 (nN (mn f0)))))), (oa dy cI cd (upd (upd (upd (upd Q 0 (iI (mnI (Y5 0).toInt Y5 (nN (mn f0))))) 1 (iI (mnI (Y5 0).toInt Y5 (nN (mn f0))))) 2 (iI (mxI (Y5 0).toInt Y5 (nN (mn f0))))) 3 (iI (mxI (Y5 0).toInt Y5 (nN (mn f0)))))), _, _, _, _, _, _, _, _, _, _, _, _, _]) hP hD hk1 hFc hP1 hD1 [9, 10, 11, 14] zl_116 zl_116 [9, 10, 11, 14] (by decide +kernel) rfl rfl rfl rfl rfl
        clear hk1 hPc hDc hFc hP1 hD1 ht
        obtain ⟨P7, hP7⟩ : ∃ z9 : Nat → Int32, z9 = upd (upd (upd (upd P 0 (iI (mnI (X5 0).toInt X5 (nN (mn f0))))) 1 (iI (mxI (X5 0).toInt X5 (nN (mn f0))))) 2 (iI (mxI (X5 0).toInt X5 (nN (mn f0))))) 3 (iI (mnI (X5 0).toInt X5 (nN (mn f0)))) := ⟨_, rfl⟩
        rw [← hP7] at hP hD
        obtain ⟨Q7, hQ7⟩ : ∃ z9 : Nat → Int32, z9 = upd (upd (upd (upd Q 0 (iI (mnI (Y5 0).toInt Y5 (nN (mn f0))))) 1 (iI (mnI (Y5 0).toInt Y5 (nN (mn f0))))) 2 (iI (mxI (Y5 0).toInt Y5 (nN (mn f0))))) 3 (iI (mxI (Y5 0).toInt Y5 (nN (mn f0)))) := ⟨_, rfl⟩
        rw [← hQ7] at hP hD
        obtain ⟨hP, hD⟩ := zre (W2 := ([_, _, _, _, _, _, _, _, _, _, _, _, _, _, _, _, _, _, _, _, _, _, _, _, _] ++ va_pl T_1 f)) hP hD rfl
        have hp0 : P7 0 = iI (mnI (X5 0).toInt X5 (nN (mn f0))) ∧ P7 1 = iI (mxI (X5 0).toInt X5 (nN (mn f0))) ∧ P7 2 = iI (mxI (X5 0).toInt X5 (nN (mn f0))) ∧ P7 3 = iI (mnI (X5 0).toInt X5 (nN (mn f0))) := (by rw [hP7]; exact bx_4)
        have hq0 : Q7 0 = iI (mnI (Y5 0).toInt Y5 (nN (mn f0))) ∧ Q7 1 = iI (mnI (Y5 0).toInt Y5 (nN (mn f0))) ∧ Q7 2 = iI (mxI (Y5 0).toInt Y5 (nN (mn f0))) ∧ Q7 3 = iI (mxI (Y5 0).toInt Y5 (nN (mn f0))) := (by rw [hQ7]; exact bx_5)
        obtain ⟨hp47, hdf7, ha47, han7⟩ := bx_sq hp5 (by omega) hp0 hq0
        have hdf8 : dfB (nN (mn f0)) X5 Y5 = dfB (nN (mn f0)) (cF40 cx f0) (cF40 cy f0) := (by have e1 := mnI_cg (z := (X5 0).toInt) (fun j hj => (hX5 j hj).1) _ (Nat.le_refl _); have e2 := mnI_cg (z := (Y5 0).toInt) (fun j hj => (hX5 j hj).2) _ (Nat.le_refl _); rw [dfB_eq, dfB_eq, e1.1, e1.2, e2.1, e2.2, ar2_cg hX5 _ (Nat.le_refl _), (hX5 0 (by omega)).1, (hX5 0 (by omega)).2])
        have hmn8 : ∀ j, iI (mnI (X5 0).toInt X5 (nN (mn f0))) = iI (bL (cF40 cx f0) (nN (mn f0))) ∧ iI (mxI (X5 0).toInt X5 (nN (mn f0))) = iI (bH (cF40 cx f0) (nN (mn f0))) ∧ iI (mnI (Y5 0).toInt Y5 (nN (mn f0))) = iI (bL (cF40 cy f0) (nN (mn f0))) ∧ iI (mxI (Y5 0).toInt Y5 (nN (mn f0))) = iI (bH (cF40 cy f0) (nN (mn f0))) := fun (_ : Nat) => (by have e1 := mnI_cg (z := (X5 0).toInt) (fun j hj => (hX5 j hj).1) _ (Nat.le_refl _); have e2 := mnI_cg (z := (Y5 0).toInt) (fun j hj => (hX5 j hj).2) _ (Nat.le_refl _); rw [e1.1, e1.2, e2.1, e2.2, (hX5 0 (by omega)).1, (hX5 0 (by omega)).2]; exact ⟨rfl, rfl, rfl, rfl⟩)
        have hm8 := hmn8 0
        have hlS : ((pls 4 P7 Q7 ∧ ((∀ i, i < edg 4 (1 : Int32) → eFr 4 P7 Q7 (1 : Int32) i (i + 1)) ∧ (¬ (6 : Int32).toInt = 6 ∨ ∀ k, k < 4 → eRt 4 P7 Q7 k)) ∧ ∀ q, q < ft → (q ≠ f0 → lvF ft st tn q → (apB (mnI (mnI (X5 0).toInt X5 (nN (mn f0))) P7 4) (mnI (mnI (Y5 0).toInt Y5 (nN (mn f0))) Q7 4) (mxI (mxI (X5 0).toInt X5 (nN (mn f0))) P7 4) (mxI (mxI (Y5 0).toInt Y5 (nN (mn f0))) Q7 4) (nN (mn q)) (cF40 cx q) (cF40 cy q) ∨ (asb (nN (mn f0)) X5 Y5 (rgK (kd f0).toInt) 4 P7 Q7 (1 : Int32) (nN (mn q)) (cF40 cx q) (cF40 cy q) (rgK (kd q).toInt)))))) ↔ lwS ft st tn kd mn cx cy f0 (nN (mn f0)) := (alB_cx (rg := rgK (kd f0).toInt) (rd := (1 : Int32)) hw1.1 hX5).trans (by rw [hkd5]; exact alB_lw (by have h9 := (hsm.2 (by omega)).1; unfold mnc at h9; rw [if_pos (by omega)] at h9; omega) hkd5 ⟨hp0.1.trans hm8.1, hq0.1.trans hm8.2.2.1⟩ ⟨hp0.2.1.trans hm8.2.1, hq0.2.1.trans hm8.2.2.1⟩ ⟨hp0.2.2.1.trans hm8.2.1, hq0.2.2.1.trans hm8.2.2.2⟩ ⟨hp0.2.2.2.trans hm8.1, hq0.2.2.2.trans hm8.2.2.2⟩ hwf hkn)
        refine lv_aload_n hx hb dX10_square_106 rfl (lv_at hl 2 rfl) ?_
        refine va_get (D := (dC, dI)) (ci := 8) (v := .ref lw) (C := RX10) (T := TX10) (N := 13) hx hb hts inX10 hown hK hP 0 rfl rfl 1 (Nat.le_of_ble_eq_true rfl) (hts _ mw_310) (fun _ h9 => h9) rfl dX10_square_107 ?_
        refine va_get (D := (dC, dI)) (ci := 3) (v := .ref dr) (C := RX4) (T := TX4) (N := 6) hx hb hts inX4 hown hK hP 2 rfl rfl 0 (Nat.le_of_ble_eq_true rfl) (hts _ mw_220) (fun _ h9 => h9) rfl dX10_square_110 ?_
        obtain ⟨hPc, hDc, hFc, hI1⟩ := zi_sub (wc := [_, _, _]) hP hD hS hA [9, 10, 11] rfl rfl
        refine zcall (st1 := [.int (nI (Int.natAbs (ar2 4 P7 Q7 4)))]) (va_runV (As := []) (rest := []) ⟨hx, hb, hml, hown, hts⟩ (k_Row_doubleArea l dC dI cI cZ cF H.size dr dx dy 4 cd P7 Q7 1 (by first | with_reducible assumption | omega) (by first | with_reducible assumption | omega) (hp47)) (csV_123 hts rfl rfl ⟨Nat.le_of_ble_eq_true rfl, Nat.le_of_ble_eq_true rfl⟩) (zPV2 (q0 := 0) (ci := 6) hPc hDc hK3 hXN rfl rfl) rfl rfl hl.1 rfl (lv_room (Nat.le_of_ble_eq_true rfl)) dX10_square_113 ⟨Nat.le_of_ble_eq_true rfl, Nat.le_of_ble_eq_true rfl⟩) hS hFc hFc rfl (fun t H locs ht hB hk1 hS => ?_)
        obtain ⟨hP1, hD1⟩ := hB
        rw [ht] at hP1
        replace hP := z0 hP hD hk1 hP1 hI1
        clear hk1 hPc hDc hFc hP1 hD1 ht hI1
        refine lv_aload hx hb dX10_square_116 (lv_at hl 0 rfl) ?_
        obtain ⟨hPc, hDc, hFc, hI1⟩ := zi_sub (wc := [_, _, _]) hP hD hS hA [19, 20, 21] rfl rfl
        refine zcall (st1 := [.int (nI (Int.natAbs (ar2 (nN (mn f0)) X5 Y5 (nN (mn f0))))), .int (nI (Int.natAbs (ar2 4 P7 Q7 4)))]) (va_runV (As := []) (rest := [.int (nI (Int.natAbs (ar2 4 P7 Q7 4)))]) ⟨hx, hb, hml, hown, hts⟩ (k_Row_doubleArea l dC dI cI cZ cF H.size r5 rx5 ry5 (nN (mn f0)) cap5 X5 Y5 (rgK (kd f0).toInt) (by first | with_reducible assumption | omega) (by first | with_reducible assumption | omega) (hp5)) (csV_123 hts rfl rfl ⟨Nat.le_of_ble_eq_true rfl, Nat.le_of_ble_eq_true rfl⟩) (zPV2 (q0 := 0) (ci := 6) hPc hDc hK3 hXN rfl rfl) rfl rfl hl.1 rfl (lv_room (Nat.le_of_ble_eq_true rfl)) dX10_square_118 ⟨Nat.le_of_ble_eq_true rfl, Nat.le_of_ble_eq_true rfl⟩) hS hFc hFc rfl (fun t H locs ht hB hk1 hS => ?_)
        obtain ⟨hP1, hD1⟩ := hB
        rw [ht] at hP1
        replace hP := z0 hP hD hk1 hP1 hI1
        clear hk1 hPc hDc hFc hP1 hD1 ht hI1
        refine lv_isub hx hb dX10_square_121 ?_
        refine zz_i (v := iI (((Int.natAbs (ar2 4 P7 Q7 4) : Nat) : Int) - ((Int.natAbs (ar2 (nN (mn f0)) X5 Y5 (nN (mn f0))) : Nat) : Int))) (nn_sub (by omega) (by omega)) ?_
        refine lv_iload_n hx hb dX10_square_122 rfl (lv_at hl 4 rfl) ?_
        refine lv_icmp_le (tgt := 132) hx hb dX10_square_123 rfl (fun c_4 => ?_) (fun c_4 => ?_)
        · have c_4 : (((Int.natAbs (ar2 4 P7 Q7 4) : Nat) : Int) - ((Int.natAbs (ar2 (nN (mn f0)) X5 Y5 (nN (mn f0))) : Nat) : Int)) ≤ ms.toInt := zc_le (iI_toInt (by omega)) rfl c_4
          refine lv_aload_n hx hb dX10_square_132 rfl (lv_at hl 2 rfl) ?_
          refine va_get (D := (dC, dI)) (ci := 8) (v := .ref lw) (C := RX10) (T := TX10) (N := 13) hx hb hts inX10 hown hK hP 0 rfl rfl 1 (Nat.le_of_ble_eq_true rfl) (hts _ mw_310) (fun _ h9 => h9) rfl dX10_square_133 ?_
          refine lv_aload_n hx hb dX10_square_136 rfl (lv_at hl 2 rfl) ?_
          refine va_get (D := (dC, dI)) (ci := 8) (v := .ref sh) (C := RX10) (T := TX10) (N := 13) hx hb hts inX10 hown hK hP 0 rfl rfl 0 (Nat.le_of_ble_eq_true rfl) (hts _ mw_309) (fun _ h9 => h9) rfl dX10_square_137 ?_
          refine lv_aload_n hx hb dX10_square_140 rfl (lv_at hl 1 rfl) ?_
          refine lv_bipush (v := (-2)) hx hb dX10_square_141 rfl ?_
          obtain ⟨hPc, hDc, hFc⟩ := zo_part (cx := [_, _, _, _, _, _, _, _, _, _, _, _, _, _, _, _, _, _, _]) hP hD hS hA [2, 3, 4, 5, 6, 7, 8, 9, 10, 11, 12, 13, 15, 16, 17, 18, 19, 20, 21] (by decide +kernel) rfl
          refine zcall (st1 := [.int (pI (pls 4 P7 Q7 ∧ ((∀ i, i < edg 4 (1 : Int32) → eFr 4 P7 Q7 (1 : Int32) i (i + 1)) ∧ (¬ (6 : Int32).toInt = 6 ∨ ∀ k, k < 4 → eRt 4 P7 Q7 k)) ∧ ∀ q, q < ft → (q ≠ f0 → lvF ft st tn q → (apB (mnI (mnI (X5 0).toInt X5 (nN (mn f0))) P7 4) (mnI (mnI (Y5 0).toInt Y5 (nN (mn f0))) Q7 4) (mxI (mxI (X5 0).toInt X5 (nN (mn f0))) P7 4) (mxI (mxI (Y5 0).toInt Y5 (nN (mn f0))) Q7 4) (nN (mn q)) (cF40 cx q) (cF40 cy q) ∨ (asb (nN (mn f0)) X5 Y5 (rgK (kd f0).toInt) 4 P7 Q7 (1 : Int32) (nN (mn q)) (cF40 cx q) (cF40 cy q) (rgK (kd q).toInt))))))]) (va_runV (As := [.ref sh, .ref (fe f0), .int (-2)]) (rest := []) ⟨hx, hb, hml, hown, hts⟩ (k_Law_allows_b l dC dI cI cZ cF H.size lw dr tg wy br bo aa tx ty nt TX TY rt wx wz nw WX WY rw dx dy 4 cd P7 Q7 1 b1 b2 b3 b4 b5 b6 b7 b8 sh fa ft FA (fe f0) lo5 (rk f0) (wd f0) (tw f0) (pa f0) (pb f0) (la dn f0) (kd f0) (st f0) (gb f0) (it f0) (nI we5) r5 rx5 ry5 (nN (mn f0)) cap5 X5 Y5 (rgK (kd f0).toInt) f0 (.null) T_1 f kd st tn mn cx cy (by first | with_reducible assumption | omega) (by first | with_reducible assumption | omega) (hFA9 f0 (by first | with_reducible assumption | omega)) (hst) (by rw [← hT_1]; exact fc_vw hc5 (by first | with_reducible assumption | omega) (by first | with_reducible assumption | omega) hG.1 hG.2.1 hFA9 (Nat.le_refl _)) (hwf) (hkn) (by first | with_reducible assumption | omega) (by first | with_reducible assumption | omega) (by first | with_reducible assumption | omega) (by first | with_reducible assumption | omega) (hp5) (by first | with_reducible assumption | omega) (by first | with_reducible assumption | omega) (by have h9 := (hsm.2 (by first | with_reducible assumption | omega)).1; unfold mnc at h9; rw [if_pos (by first | with_reducible assumption | omega)] at h9; omega)) (csV_109 hts rfl rfl ⟨Nat.le_of_ble_eq_true rfl, Nat.le_of_ble_eq_true rfl⟩) (zPV2 (q0 := 0) (ci := 3) hPc hDc hK3 hXN rfl rfl) rfl rfl hl.1 rfl (lv_room (Nat.le_of_ble_eq_true rfl)) dX10_square_143 ⟨Nat.le_of_ble_eq_true rfl, Nat.le_of_ble_eq_true rfl⟩) hS hFc hFc rfl (fun t H locs ht hB hk1 hS => ?_)
          refine ex16 hB (fun nt8 TX8 TY8 rt8 nw8 WX8 WY8 rw8 g08 g18 g28 g38 g48 g58 g68 g78 hB0 => ?_)
          clear hB
          obtain ⟨hP1, hD1⟩ := hB0
          rw [ht] at hP1
          obtain ⟨hP, hD⟩ := znP (W2 := [_, _, _, (oc6 tg (.ref tx) (.ref ty) (nI nt8) rt8), (oa tx cI 3 TX8), (oa ty cI 3 TY8), (oc6 wy (.ref wx) (.ref wz) (nI nw8) rw8), (oa wx cI 2 WX8), (oa wz cI 2 WY8), _, _, _, (oc0 br g08 g18 g28 g38), (oc0 bo g48 g58 g68 g78), _, _, _, _, _, _, _, _, _, _, _]) hP hD hk1 hFc hP1 hD1 zl_117 zl_118 zl_118 zl_117 (by decide +kernel) rfl rfl rfl rfl rfl
          clear hk1 hPc hDc hFc hP1 hD1 ht
          refine lv_if_ne (tgt := 156) hx hb dX10_square_146 rfl (fun c_5 => ?_) (fun c_5 => ?_)
          · have c_5 : pls 4 P7 Q7 ∧ ((∀ i, i < edg 4 (1 : Int32) → eFr 4 P7 Q7 (1 : Int32) i (i + 1)) ∧ (¬ (6 : Int32).toInt = 6 ∨ ∀ k, k < 4 → eRt 4 P7 Q7 k)) ∧ ∀ q, q < ft → (q ≠ f0 → lvF ft st tn q → (apB (mnI (mnI (X5 0).toInt X5 (nN (mn f0))) P7 4) (mnI (mnI (Y5 0).toInt Y5 (nN (mn f0))) Q7 4) (mxI (mxI (X5 0).toInt X5 (nN (mn f0))) P7 4) (mxI (mxI (Y5 0).toInt Y5 (nN (mn f0))) Q7 4) (nN (mn q)) (cF40 cx q) (cF40 cy q) ∨ (asb (nN (mn f0)) X5 Y5 (rgK (kd f0).toInt) 4 P7 Q7 (1 : Int32) (nN (mn q)) (cF40 cx q) (cF40 cy q) (rgK (kd q).toInt)))) := zp_1 c_5
            exfalso; exact absurd (hlS.mp (by first | with_reducible assumption | assumption)) hlaw
          · have c_5 : ¬ (pls 4 P7 Q7 ∧ ((∀ i, i < edg 4 (1 : Int32) → eFr 4 P7 Q7 (1 : Int32) i (i + 1)) ∧ (¬ (6 : Int32).toInt = 6 ∨ ∀ k, k < 4 → eRt 4 P7 Q7 k)) ∧ ∀ q, q < ft → (q ≠ f0 → lvF ft st tn q → (apB (mnI (mnI (X5 0).toInt X5 (nN (mn f0))) P7 4) (mnI (mnI (Y5 0).toInt Y5 (nN (mn f0))) Q7 4) (mxI (mxI (X5 0).toInt X5 (nN (mn f0))) P7 4) (mxI (mxI (Y5 0).toInt Y5 (nN (mn f0))) Q7 4) (nN (mn q)) (cF40 cx q) (cF40 cy q) ∨ (asb (nN (mn f0)) X5 Y5 (rgK (kd f0).toInt) 4 P7 Q7 (1 : Int32) (nN (mn q)) (cF40 cx q) (cF40 cy q) (rgK (kd q).toInt))))) := zp_0 c_5
            refine lv_aload_n hx hb dX10_square_149 rfl (lv_at hl 2 rfl) ?_
            refine lv_bipush (v := 7) hx hb dX10_square_150 rfl ?_
            obtain ⟨hPc, hDc, hFc⟩ := zo_sub (wc := [_]) hP hD hS hA [0] rfl rfl
            refine zcall (st1 := [.int 0]) (va_runV (As := [.int 7]) (rest := []) ⟨hx, hb, hml, hown, hts⟩ (k_deny_7 l dC dI cI cZ cF H.size x sh lw ro bq bp dq dp lv sl sd ul su (nI dn) ) (csV_96 hts rfl rfl ⟨Nat.le_of_ble_eq_true rfl, Nat.le_of_ble_eq_true rfl⟩) (zPV2 (q0 := 0) (ci := 8) hPc hDc hK3 hXN rfl rfl) rfl rfl hl.1 rfl (lv_room (Nat.le_of_ble_eq_true rfl)) dX10_square_152 ⟨Nat.le_of_ble_eq_true rfl, Nat.le_of_ble_eq_true rfl⟩) hS hFc hFc rfl (fun t H locs ht hB hk1 hS => ?_)
            obtain ⟨hP1, hD1⟩ := hB
            rw [ht] at hP1
            obtain ⟨hP, hD⟩ := znQ (W2 := [(oc8 x (.ref sh) (.ref lw) (.ref ro) (.ref bq) (.ref bp) (.ref dq) (.ref dp) (.ref lv) (.ref sl) (nI dn) sd (ul + 1) 7), _, _, _, _, _, _, _, _, _, _, _, _, _, _, _, _, _, _, _, _, _, _, _, _]) hP hD hk1 hFc hP1 hD1 [0] zl_68 zl_68 [0] (by decide +kernel) rfl rfl rfl rfl rfl
            clear hk1 hPc hDc hFc hP1 hD1 ht
            obtain ⟨hP, hD⟩ := pl_bk (X := [_, _, _, _, _, _, _, _, _, _, _, _, _, _, _, _, _]) hT_1 hP rfl hc9_1 hD0_1 rfl
            obtain ⟨hP9, hD9⟩ := zu_part (cx := [_, _, _, _, _, _, _, _, _, _, _, _, _, _, _, _, _]) hP hD [true, true, true, true, true, true, true, true, true, true, true, true, true, true, true, true, true] rfl rfl
            rw [hQ9]
            exact W.zret (ty := .boolean) (v := 0) hx hb hr (rfl) (fun t ht hW => ⟨⟨rfl, (ul + 1), 7, nt8, TX8, TY8, rt8, nw8, WX8, WY8, rw8, g08, g18, g28, g38, g48, g58, g68, g78, P7, Q7, (iI (mnI (X5 0).toInt X5 (nN (mn f0)))), (iI (mnI (Y5 0).toInt Y5 (nN (mn f0)))), (iI (mxI (X5 0).toInt X5 (nN (mn f0)))), (iI (mxI (Y5 0).toInt Y5 (nN (mn f0)))), by rw [ht]; exact hP9, hD9⟩, hS.F ht⟩) hS.2.2 dX10_square_155
        · have c_4 : ms.toInt < (((Int.natAbs (ar2 4 P7 Q7 4) : Nat) : Int) - ((Int.natAbs (ar2 (nN (mn f0)) X5 Y5 (nN (mn f0))) : Nat) : Int)) := zc_nle (iI_toInt (by omega)) rfl c_4
          exfalso; omega
      · have c_3 : ms.toInt < 0 := zc_nle rfl rfl c_3
        exfalso; omega
    · have c_2 : ¬ (kd f0).toInt = 5 := zc_ne rfl rfl c_2
      exfalso; omega
  · have c_1 : ¬ (st f0).toInt = 1 := zc_ne rfl rfl c_1
    exfalso; omega
set_option maxHeartbeats 4000000 in
set_option maxRecDepth 100000 in
theorem k_square_y (l : Launch) (dC : Nat → ClassId) (dI : Nat → Nat → Nat) (cI cZ cF : ClassId) (sz : Nat) (cO : ClassId) (e0 : Nat) (mi : Nat) (x : Nat) (sh : Nat) (lw : Nat) (ro : Nat) (bq : Nat) (bp : Nat) (dq : Nat) (dp : Nat) (lv : Nat) (sl : Nat) (sd : Int32) (ul : Int32) (su : Int32) (ea : Nat) (mc9 : Int32) (fa : Nat) (FA : Nat → Option Nat) (bs : Nat) (dn : Nat) (T : Nat) (ft : Nat) (FT : Nat → Nat) (V : Nat → Nat → Nat → Int32) (VX : Nat → Nat → Int32) (VY : Nat → Nat → Int32) (tn : Nat → Int32) (rk : Nat → Int32) (wd : Nat → Int32) (tw : Nat → Int32) (pa : Nat → Int32) (pb : Nat → Int32) (wh : Nat → Int32) (of9 : Nat → Int32) (we : Nat → Int32) (kd : Nat → Int32) (st : Nat → Int32) (gb : Nat → Int32) (it : Nat → Int32) (mn : Nat → Int32) (cx : Nat → Int32) (cy : Nat → Int32) (L : List Nat) (f : Nat → va_E) (f0 : Nat) (dr : Nat) (tg : Nat) (wy : Nat) (br : Nat) (bo : Nat) (aa : Nat) (tx : Nat) (ty : Nat) (nt : Nat) (TX : Nat → Int32) (TY : Nat → Int32) (rt : Int32) (wx : Nat) (wz : Nat) (nw : Nat) (WX : Nat → Int32) (WY : Nat → Int32) (rw : Int32) (dx : Nat) (dy : Nat) (nd : Nat) (cd : Nat) (P : Nat → Int32) (Q : Nat → Int32) (rd : Int32) (b1 : Int32) (b2 : Int32) (b3 : Int32) (b4 : Int32) (b5 : Int32) (b6 : Int32) (b7 : Int32) (b8 : Int32) (c1 : Int32) (c2 : Int32) (c3 : Int32) (c4 : Int32) (ms : Int32) (z1 : Int32) (z2 : Int32) (z3 : Int32) (z4 : Int32) (hB : shB cI cO L f e0 FA ea bs dn T ft FT V VX VY tn rk wd tw pa pb wh of9 we kd st gb it mn cx cy) (hd5 : dn + 1 ≤ 512) (hf0 : f0 < ft) (htn : (tn f0).toInt = 0) (hst : (st f0).toInt = 1) (hkd5 : (kd f0).toInt = 5) (hms : 0 ≤ ms.toInt) (hwf : ∀ q, lvF ft st tn q → wfM mn cx cy q) (hkn : okN ft st tn kd mn) (hsm : mSm (kd f0).toInt (nN (mn f0)) (cF40 cx f0) (cF40 cy f0)) (hcd : 40 ≤ cd ∧ cd ≤ 1000) (hdf : dfB (nN (mn f0)) (cF40 cx f0) (cF40 cy f0) ≤ ms.toInt) (hlaw : lwS ft st tn kd mn cx cy f0 (nN (mn f0))) (hz1 : z1 = iI (bL (cF40 cx f0) (nN (mn f0)))) (hz2 : z2 = iI (bL (cF40 cy f0) (nN (mn f0)))) (hz3 : z3 = iI (bH (cF40 cx f0) (nN (mn f0)))) (hz4 : z4 = iI (bH (cF40 cy f0) (nN (mn f0)))) : zML l yX10_square cX10_square 5 (some .boolean) ({ frames := 8, cells := ft + 6, slots := 4 * ft + 830, locals := 182 } : Room) [.ref x, .int (nI f0), .int ms] (dC, dI) (zTyO cI cZ cF cO) e0 mi ([(oc8 x (.ref sh) (.ref lw) (.ref ro) (.ref bq) (.ref bp) (.ref dq) (.ref dp) (.ref lv) (.ref sl) (nI dn) sd ul su), (oc10 sl mc9 (.ref ea) (nI T)), (oc3 lw (.ref dr) (.ref tg) (.ref wy) (.ref br) (.ref bo) (.ref aa)), (oc6 tg (.ref tx) (.ref ty) (nI nt) rt), (oa tx cI 3 TX), (oa ty cI 3 TY), (oc6 wy (.ref wx) (.ref wz) (nI nw) rw), (oa wx cI 2 WX), (oa wz cI 2 WY), (oc6 dr (.ref dx) (.ref dy) (nI nd) rd), (oa dx cI cd P), (oa dy cI cd Q), (oc0 br b1 b2 b3 b4), (oc0 bo b5 b6 b7 b8), (oc0 bq c1 c2 c3 c4), (oc7 sh (.ref fa) (nI ft)), (oq fa cF 200 FA)] ++ va_pl L f) sz (some (.int 1)) (fun A t => ∃ (mc1 : Int32), ∃ (L1 : List Nat), ∃ (f1 : Nat → va_E), ∃ (ea1 : Nat), ∃ (nt1 : Nat), ∃ (TX1 : Nat → Int32), ∃ (TY1 : Nat → Int32), ∃ (rt1 : Int32), ∃ (nw1 : Nat), ∃ (WX1 : Nat → Int32), ∃ (WY1 : Nat → Int32), ∃ (rw1 : Int32), ∃ (d5 : Int32), ∃ (d6 : Int32), ∃ (d7 : Int32), ∃ (d8 : Int32), ∃ (e5 : Int32), ∃ (e6 : Int32), ∃ (e7 : Int32), ∃ (e8 : Int32), ∃ (P1 : Nat → Int32), ∃ (Q1 : Nat → Int32), ∃ (c5 : Int32), ∃ (c6 : Int32), ∃ (c7 : Int32), ∃ (c8 : Int32), (shB cI cO L1 f1 e0 FA ea1 bs (dn + 1) (dn + 1) ft (upN FT (dn + 1) ft) (upN V (dn + 1) (vC (V dn) (upd kd f0 6) st gb it (upd mn f0 4))) (upN VX (dn + 1) (bxX f0 z1 z3 4 cx)) (upN VY (dn + 1) (bxY f0 z2 z4 4 cy)) tn rk wd tw pa pb (upd wh (dn + 1) (5 : Int32)) (upd of9 (dn + 1) (nI f0)) (upd we (dn + 1) (0 : Int32)) (upd kd f0 6) st gb it (upd mn f0 4) (bxX f0 z1 z3 4 cx) (bxY f0 z2 z4 4 cy)) ∧ zPD (dC, dI) classes A ([(oc8 x (.ref sh) (.ref lw) (.ref ro) (.ref bq) (.ref bp) (.ref dq) (.ref dp) (.ref lv) (.ref sl) (nI (dn + 1)) sd ul 0), (oc10 sl mc1 (.ref ea1) (nI (dn + 1))), (oc3 lw (.ref dr) (.ref tg) (.ref wy) (.ref br) (.ref bo) (.ref aa)), (oc6 tg (.ref tx) (.ref ty) (nI nt1) rt1), (oa tx cI 3 TX1), (oa ty cI 3 TY1), (oc6 wy (.ref wx) (.ref wz) (nI nw1) rw1), (oa wx cI 2 WX1), (oa wz cI 2 WY1), (oc6 dr (.ref dx) (.ref dy) (nI 4) 1), (oa dx cI cd P1), (oa dy cI cd Q1), (oc0 br d5 d6 d7 d8), (oc0 bo e5 e6 e7 e8), (oc0 bq c5 c6 c7 c8), (oc7 sh (.ref fa) (nI ft)), (oq fa cF 200 FA)] ++ va_pl L1 f1) t.heap) (ft + 6) (4 * ft + 830) := by
  refine zInL (own := "ScaleShop") (loc := [(0, .ref x), (1, .int (nI f0)), (2, .int ms)]) rfl rfl rfl rfl (fun p e s m below meth c hx hb hr hts hown hlocks hml hnm9 A hA hS hP hD hK hXL hXN hK3 Q9 hQ9 ls hl => ?_)
  obtain ⟨own, fe, cl, la, sp, SA, hG9, hH9, hft9, hO9⟩ := hB
  obtain ⟨hG, hM, hdT, hT5, hO⟩ := M_0 hG9 hH9 hft9 hO9
  have h200 : ft ≤ 200 := hG.2.2.2.2.2.1.2.2.2.2.2
  have hFA9 := hG.2.2.2.2.2.2
  refine ex13 (sh_fc hG.1 hG.2.1 (Nat.le_refl _) hf0 htn) (fun lo5 lx5 ly5 ln5 LX5 LY5 we5 r5 rx5 ry5 cap5 X5 Y5 hc5 => ?_)
  have hc5 := fc_0 hc5
  have hb5 := hc5.2.2.1
  have hb6 := hc5.2.1
  have hat9 := lo_at hO (Nat.le_refl _) hf0 hc5.1.1 hc5.1.2.2.2 (by omega) hc5.1.2.1 hb5.2.2
  have hlv : lvF ft st tn f0 := ⟨hf0, hst, htn⟩
  have hwf0 := hwf f0 hlv
  have hw1 := hwf0.2.1
  have hkn0 := hkn f0 hlv
  have hX5 := hc5.2.2.2.2.1
  have hp5 := (pls_cg hX5).mpr hwf0.2.2
  have hc9_1 : inPl L f [(oc1 (fe f0) (rk f0) (wd f0) (tw f0) (pa f0) (pb f0) (.ref lo5) (.ref (la dn f0)) .null), (oc4 (la dn f0) (kd f0) (st f0) (.ref r5) (gb f0) (it f0) (nI we5)), (oc6 r5 (.ref rx5) (.ref ry5) (nI (nN (mn f0))) (rgK (kd f0).toInt)), (oa rx5 cI cap5 X5), (oa ry5 cI cap5 Y5), (oc6 lo5 (.ref lx5) (.ref ly5) (nI ln5) 0), (oa lx5 cI (cl f0) LX5), (oa ly5 cI (cl f0) LY5)] := ⟨ce_pl hc5.1.1, ce_pl hc5.1.2.1, ce_pl hc5.1.2.2.1.1, ce_pl hc5.1.2.2.1.2.1, ce_pl hc5.1.2.2.1.2.2.1, ce_pl hc5.1.2.2.2.1, ce_pl hc5.1.2.2.2.2.1, ce_pl hc5.1.2.2.2.2.2.1, trivial⟩
  have hD0_1 := hD
  obtain ⟨T_1, hT_1, hP, hD⟩ := pl_oT hP hD hc9_1 (pw8 hc5 (by omega))
  obtain ⟨hP, hD⟩ := zre (W2 := ([_, _, _, _, _, _, _, _, _, _, _, _, _, _, _, _, _, _, _, _, _, _, _, _, _] ++ va_pl T_1 f)) hP hD rfl
  refine lv_aload_n hx hb dX10_square_0 rfl (lv_at hl 0 rfl) ?_
  refine va_get (D := (dC, dI)) (ci := 8) (v := .ref sh) (C := RX10) (T := TX10) (N := 13) hx hb hts inX10 hown hK hP 0 rfl rfl 0 (Nat.le_of_ble_eq_true rfl) (hts _ mw_309) (fun _ h9 => h9) rfl dX10_square_1 ?_
  refine lv_iload_n hx hb dX10_square_4 rfl (lv_at hl 1 rfl) ?_
  obtain ⟨hPc, hDc, hFc, hI1⟩ := zi_sub (wc := [_, _]) hP hD hS hA [15, 16] rfl rfl
  refine zcall (st1 := [.ref (fe f0)]) (va_runV (As := [.int (nI f0)]) (rest := []) ⟨hx, hb, hml, hown, hts⟩ (k_Sheet_find l dC dI cI cZ cF s.heap.size sh fa ft FA f0 (fe f0) (by first | with_reducible assumption | omega) (by first | with_reducible assumption | omega) (hFA9 f0 (by first | with_reducible assumption | omega))) (csV_94 hts rfl rfl ⟨Nat.le_of_ble_eq_true rfl, Nat.le_of_ble_eq_true rfl⟩) (zPV2 (q0 := 0) (ci := 7) hPc hDc hK3 hXN rfl rfl) rfl rfl hl.1 rfl (lv_room (Nat.le_of_ble_eq_true rfl)) dX10_square_5 ⟨Nat.zero_le _, Nat.zero_le _⟩) hS hFc hFc rfl (fun t H locs ht hB hk1 hS => ?_)
  obtain ⟨hP1, hD1⟩ := hB
  rw [ht] at hP1
  replace hP := z0 hP hD hk1 hP1 hI1
  clear hk1 hPc hDc hFc hP1 hD1 ht hI1
  refine lv_astore_n (lv' := [(3, .ref (fe f0)), (0, .ref x), (1, .int (nI f0)), (2, .int ms)]) hx hb dX10_square_8 rfl hl (Nat.le_of_ble_eq_true rfl) rfl (fun ls hl => ?_)
  refine lv_aload_n hx hb dX10_square_9 rfl (lv_at hl 0 rfl) ?_
  refine lv_ifnonnull (tgt := 19) hx hb dX10_square_10 rfl ?_
  refine lv_aload_n hx hb dX10_square_19 rfl (lv_at hl 0 rfl) ?_
  refine va_get (D := (dC, dI)) (ci := 1) (v := .ref (la dn f0)) (C := RX2) (T := TX2) (N := 8) hx hb hts inX2 hown hK hP 17 rfl rfl 6 (Nat.le_of_ble_eq_true rfl) (hts _ mw_433) (fun _ h9 => h9) rfl dX10_square_20 ?_
  refine va_get (D := (dC, dI)) (ci := 4) (v := .int (st f0)) (C := RX5) (T := TX5) (N := 6) hx hb hts inX5 hown hK hP 18 rfl rfl 1 (Nat.le_of_ble_eq_true rfl) (hts _ mw_385) (fun _ h9 => h9) rfl dX10_square_23 ?_
  refine lv_iconst (v := 1) hx hb dX10_square_26 rfl ?_
  refine lv_icmp_eq (tgt := 36) hx hb dX10_square_27 rfl (fun c_1 => ?_) (fun c_1 => ?_)
  · have c_1 : (st f0).toInt = 1 := zc_eq rfl rfl c_1
    refine lv_aload_n hx hb dX10_square_36 rfl (lv_at hl 0 rfl) ?_
    refine va_get (D := (dC, dI)) (ci := 1) (v := .ref (la dn f0)) (C := RX2) (T := TX2) (N := 8) hx hb hts inX2 hown hK hP 17 rfl rfl 6 (Nat.le_of_ble_eq_true rfl) (hts _ mw_433) (fun _ h9 => h9) rfl dX10_square_37 ?_
    refine va_get (D := (dC, dI)) (ci := 4) (v := .int (kd f0)) (C := RX5) (T := TX5) (N := 6) hx hb hts inX5 hown hK hP 18 rfl rfl 0 (Nat.le_of_ble_eq_true rfl) (hts _ mw_381) (fun _ h9 => h9) rfl dX10_square_40 ?_
    refine lv_iconst (v := 5) hx hb dX10_square_43 rfl ?_
    refine lv_icmp_eq (tgt := 53) hx hb dX10_square_44 rfl (fun c_2 => ?_) (fun c_2 => ?_)
    · have c_2 : (kd f0).toInt = 5 := zc_eq rfl rfl c_2
      refine lv_iload_n hx hb dX10_square_53 rfl (lv_at hl 3 rfl) ?_
      refine lv_if_ge (tgt := 63) hx hb dX10_square_54 rfl (fun c_3 => ?_) (fun c_3 => ?_)
      · have c_3 : 0 ≤ ms.toInt := zc_le rfl rfl c_3
        refine lv_aload_n hx hb dX10_square_63 rfl (lv_at hl 0 rfl) ?_
        refine va_get (D := (dC, dI)) (ci := 1) (v := .ref (la dn f0)) (C := RX2) (T := TX2) (N := 8) hx hb hts inX2 hown hK hP 17 rfl rfl 6 (Nat.le_of_ble_eq_true rfl) (hts _ mw_433) (fun _ h9 => h9) rfl dX10_square_64 ?_
        refine va_get (D := (dC, dI)) (ci := 4) (v := .ref r5) (C := RX5) (T := TX5) (N := 6) hx hb hts inX5 hown hK hP 18 rfl rfl 2 (Nat.le_of_ble_eq_true rfl) (hts _ mw_391) (fun _ h9 => h9) rfl dX10_square_67 ?_
        refine lv_astore (lv' := [(4, .ref r5), (3, .ref (fe f0)), (0, .ref x), (1, .int (nI f0)), (2, .int ms)]) hx hb dX10_square_70 hl (Nat.le_of_ble_eq_true rfl) rfl (fun ls hl => ?_)
        refine lv_aload hx hb dX10_square_72 (lv_at hl 0 rfl) ?_
        refine lv_ifnonnull (tgt := 83) hx hb dX10_square_74 rfl ?_
        refine lv_aload_n hx hb dX10_square_83 rfl (lv_at hl 2 rfl) ?_
        refine va_get (D := (dC, dI)) (ci := 8) (v := .ref bq) (C := RX10) (T := TX10) (N := 13) hx hb hts inX10 hown hK hP 0 rfl rfl 3 (Nat.le_of_ble_eq_true rfl) (hts _ mw_312) (fun _ h9 => h9) rfl dX10_square_84 ?_
        refine lv_aload hx hb dX10_square_87 (lv_at hl 0 rfl) ?_
        obtain ⟨hPc, hDc, hFc⟩ := zo_sub (wc := [_, _, _, _]) hP hD hS hA [14, 19, 20, 21] (by decide +kernel) rfl
        refine zcall (st1 := []) (va_runV (As := [.ref r5]) (rest := []) ⟨hx, hb, hml, hown, hts⟩ (k_Box_cover l dC dI cI cZ cF H.size bq c1 c2 c3 c4 r5 rx5 ry5 (nN (mn f0)) cap5 X5 Y5 (rgK (kd f0).toInt) (by first | with_reducible assumption | omega) (by first | with_reducible assumption | omega) ((pls_nr hp5).1) ((pls_nr hp5).2) (by first | with_reducible assumption | omega)) (csV_129 hts rfl rfl ⟨Nat.le_of_ble_eq_true rfl, Nat.le_of_ble_eq_true rfl⟩) (zPV2 (q0 := 0) (ci := 0) hPc hDc hK3 hXN rfl rfl) rfl rfl hl.1 rfl (lv_room (Nat.le_of_ble_eq_true rfl)) dX10_square_89 ⟨Nat.zero_le _, Nat.zero_le _⟩) hS hFc hFc rfl (fun t H locs ht hB hk1 hS => ?_)
        obtain ⟨hP1, hD1⟩ := hB
        rw [ht] at hP1
        obtain ⟨hP, hD⟩ := znQ (W2 := [_, _, _, _, _, _, _, _, _, _, _, _, _, _, (oc0 bq (iI (mnI (X5 0).toInt X5 (nN (mn f0)))) (iI (mnI (Y5 0).toInt Y5 (nN (mn f0)))) (iI (mxI (X5 0).toInt X5 (nN (mn f0)))) (iI (mxI (Y5 0).toInt Y5 (nN (mn f0))))), _, _, _, _, _, _, _, _, _, _]) hP hD hk1 hFc hP1 hD1 [14, 19, 20, 21] zl_115 zl_115 [14, 19, 20, 21] (by decide +kernel) rfl rfl rfl rfl rfl
        clear hk1 hPc hDc hFc hP1 hD1 ht
        refine lv_aload_n hx hb dX10_square_92 rfl (lv_at hl 2 rfl) ?_
        refine va_get (D := (dC, dI)) (ci := 8) (v := .ref lw) (C := RX10) (T := TX10) (N := 13) hx hb hts inX10 hown hK hP 0 rfl rfl 1 (Nat.le_of_ble_eq_true rfl) (hts _ mw_310) (fun _ h9 => h9) rfl dX10_square_93 ?_
        refine va_get (D := (dC, dI)) (ci := 3) (v := .ref dr) (C := RX4) (T := TX4) (N := 6) hx hb hts inX4 hown hK hP 2 rfl rfl 0 (Nat.le_of_ble_eq_true rfl) (hts _ mw_220) (fun _ h9 => h9) rfl dX10_square_96 ?_
        refine lv_aload_n hx hb dX10_square_99 rfl (lv_at hl 2 rfl) ?_
        refine va_get (D := (dC, dI)) (ci := 8) (v := .ref bq) (C := RX10) (T := TX10) (N := 13) hx hb hts inX10 hown hK hP 0 rfl rfl 3 (Nat.le_of_ble_eq_true rfl) (hts _ mw_312) (fun _ h9 => h9) rfl dX10_square_100 ?_
        obtain ⟨hPc, hDc, hFc⟩ := zo_sub (wc := [_, _, _, _]) hP hD hS hA [9, 10, 11, 14] (by decide +kernel) rfl
        refine zcall (st1 := []) (va_runV (As := [.ref bq]) (rest := []) ⟨hx, hb, hml, hown, hts⟩ (k_Row_boxFrom l dC dI cI cZ cF H.size dr dx dy nd cd P Q rd bq (iI (mnI (X5 0).toInt X5 (nN (mn f0)))) (iI (mnI (Y5 0).toInt Y5 (nN (mn f0)))) (iI (mxI (X5 0).toInt X5 (nN (mn f0)))) (iI (mxI (Y5 0).toInt Y5 (nN (mn f0)))) (by first | with_reducible assumption | omega) (by first | with_reducible assumption | omega)) (csV_131 hts rfl rfl ⟨Nat.le_of_ble_eq_true rfl, Nat.le_of_ble_eq_true rfl⟩) (zPV2 (q0 := 0) (ci := 6) hPc hDc hK3 hXN rfl rfl) rfl rfl hl.1 rfl (lv_room (Nat.le_of_ble_eq_true rfl)) dX10_square_103 ⟨Nat.zero_le _, Nat.zero_le _⟩) hS hFc hFc rfl (fun t H locs ht hB hk1 hS => ?_)
        obtain ⟨hP1, hD1⟩ := hB
        rw [ht] at hP1
        obtain ⟨hP, hD⟩ := znQ (W2 := [_, _, _, _, _, _, _, _, _, (oc6 dr (.ref dx) (.ref dy) (nI 4) 1), (oa dx cI cd (upd (upd (upd (upd P 0 (iI (mnI (X5 0).toInt X5 (nN (mn f0))))) 1 (iI (mxI (X5 0).toInt X5 (nN (mn f0))))) 2 (iI (mxI (X5 0).toInt X5 (nN (mn f0))))) 3 (iI (mnI (X5 0).toInt X5 (nN (mn f0)))))), (oa dy cI cd (upd (upd (upd (upd Q 0 (iI (mnI (Y5 0).toInt Y5 (nN (mn f0))))) 1 (iI (mnI (Y5 0).toInt Y5 (nN (mn f0))))) 2 (iI (mxI (Y5 0).toInt Y5 (nN (mn f0))))) 3 (iI (mxI (Y5 0).toInt Y5 (nN (mn f0)))))), _, _, _, _, _, _, _, _, _, _, _, _, _]) hP hD hk1 hFc hP1 hD1 [9, 10, 11, 14] zl_116 zl_116 [9, 10, 11, 14] (by decide +kernel) rfl rfl rfl rfl rfl
        clear hk1 hPc hDc hFc hP1 hD1 ht
        obtain ⟨P7, hP7⟩ : ∃ z9 : Nat → Int32, z9 = upd (upd (upd (upd P 0 (iI (mnI (X5 0).toInt X5 (nN (mn f0))))) 1 (iI (mxI (X5 0).toInt X5 (nN (mn f0))))) 2 (iI (mxI (X5 0).toInt X5 (nN (mn f0))))) 3 (iI (mnI (X5 0).toInt X5 (nN (mn f0)))) := ⟨_, rfl⟩
        rw [← hP7] at hP hD
        obtain ⟨Q7, hQ7⟩ : ∃ z9 : Nat → Int32, z9 = upd (upd (upd (upd Q 0 (iI (mnI (Y5 0).toInt Y5 (nN (mn f0))))) 1 (iI (mnI (Y5 0).toInt Y5 (nN (mn f0))))) 2 (iI (mxI (Y5 0).toInt Y5 (nN (mn f0))))) 3 (iI (mxI (Y5 0).toInt Y5 (nN (mn f0)))) := ⟨_, rfl⟩
        rw [← hQ7] at hP hD
        obtain ⟨hP, hD⟩ := zre (W2 := ([_, _, _, _, _, _, _, _, _, _, _, _, _, _, _, _, _, _, _, _, _, _, _, _, _] ++ va_pl T_1 f)) hP hD rfl
        have hp0 : P7 0 = iI (mnI (X5 0).toInt X5 (nN (mn f0))) ∧ P7 1 = iI (mxI (X5 0).toInt X5 (nN (mn f0))) ∧ P7 2 = iI (mxI (X5 0).toInt X5 (nN (mn f0))) ∧ P7 3 = iI (mnI (X5 0).toInt X5 (nN (mn f0))) := (by rw [hP7]; exact bx_4)
        have hq0 : Q7 0 = iI (mnI (Y5 0).toInt Y5 (nN (mn f0))) ∧ Q7 1 = iI (mnI (Y5 0).toInt Y5 (nN (mn f0))) ∧ Q7 2 = iI (mxI (Y5 0).toInt Y5 (nN (mn f0))) ∧ Q7 3 = iI (mxI (Y5 0).toInt Y5 (nN (mn f0))) := (by rw [hQ7]; exact bx_5)
        obtain ⟨hp47, hdf7, ha47, han7⟩ := bx_sq hp5 (by omega) hp0 hq0
        have hdf8 : dfB (nN (mn f0)) X5 Y5 = dfB (nN (mn f0)) (cF40 cx f0) (cF40 cy f0) := (by have e1 := mnI_cg (z := (X5 0).toInt) (fun j hj => (hX5 j hj).1) _ (Nat.le_refl _); have e2 := mnI_cg (z := (Y5 0).toInt) (fun j hj => (hX5 j hj).2) _ (Nat.le_refl _); rw [dfB_eq, dfB_eq, e1.1, e1.2, e2.1, e2.2, ar2_cg hX5 _ (Nat.le_refl _), (hX5 0 (by omega)).1, (hX5 0 (by omega)).2])
        have hmn8 : ∀ j, iI (mnI (X5 0).toInt X5 (nN (mn f0))) = iI (bL (cF40 cx f0) (nN (mn f0))) ∧ iI (mxI (X5 0).toInt X5 (nN (mn f0))) = iI (bH (cF40 cx f0) (nN (mn f0))) ∧ iI (mnI (Y5 0).toInt Y5 (nN (mn f0))) = iI (bL (cF40 cy f0) (nN (mn f0))) ∧ iI (mxI (Y5 0).toInt Y5 (nN (mn f0))) = iI (bH (cF40 cy f0) (nN (mn f0))) := fun (_ : Nat) => (by have e1 := mnI_cg (z := (X5 0).toInt) (fun j hj => (hX5 j hj).1) _ (Nat.le_refl _); have e2 := mnI_cg (z := (Y5 0).toInt) (fun j hj => (hX5 j hj).2) _ (Nat.le_refl _); rw [e1.1, e1.2, e2.1, e2.2, (hX5 0 (by omega)).1, (hX5 0 (by omega)).2]; exact ⟨rfl, rfl, rfl, rfl⟩)
        have hm8 := hmn8 0
        have hlS : ((pls 4 P7 Q7 ∧ ((∀ i, i < edg 4 (1 : Int32) → eFr 4 P7 Q7 (1 : Int32) i (i + 1)) ∧ (¬ (6 : Int32).toInt = 6 ∨ ∀ k, k < 4 → eRt 4 P7 Q7 k)) ∧ ∀ q, q < ft → (q ≠ f0 → lvF ft st tn q → (apB (mnI (mnI (X5 0).toInt X5 (nN (mn f0))) P7 4) (mnI (mnI (Y5 0).toInt Y5 (nN (mn f0))) Q7 4) (mxI (mxI (X5 0).toInt X5 (nN (mn f0))) P7 4) (mxI (mxI (Y5 0).toInt Y5 (nN (mn f0))) Q7 4) (nN (mn q)) (cF40 cx q) (cF40 cy q) ∨ (asb (nN (mn f0)) X5 Y5 (rgK (kd f0).toInt) 4 P7 Q7 (1 : Int32) (nN (mn q)) (cF40 cx q) (cF40 cy q) (rgK (kd q).toInt)))))) ↔ lwS ft st tn kd mn cx cy f0 (nN (mn f0)) := (alB_cx (rg := rgK (kd f0).toInt) (rd := (1 : Int32)) hw1.1 hX5).trans (by rw [hkd5]; exact alB_lw (by have h9 := (hsm.2 (by omega)).1; unfold mnc at h9; rw [if_pos (by omega)] at h9; omega) hkd5 ⟨hp0.1.trans hm8.1, hq0.1.trans hm8.2.2.1⟩ ⟨hp0.2.1.trans hm8.2.1, hq0.2.1.trans hm8.2.2.1⟩ ⟨hp0.2.2.1.trans hm8.2.1, hq0.2.2.1.trans hm8.2.2.2⟩ ⟨hp0.2.2.2.trans hm8.1, hq0.2.2.2.trans hm8.2.2.2⟩ hwf hkn)
        refine lv_aload_n hx hb dX10_square_106 rfl (lv_at hl 2 rfl) ?_
        refine va_get (D := (dC, dI)) (ci := 8) (v := .ref lw) (C := RX10) (T := TX10) (N := 13) hx hb hts inX10 hown hK hP 0 rfl rfl 1 (Nat.le_of_ble_eq_true rfl) (hts _ mw_310) (fun _ h9 => h9) rfl dX10_square_107 ?_
        refine va_get (D := (dC, dI)) (ci := 3) (v := .ref dr) (C := RX4) (T := TX4) (N := 6) hx hb hts inX4 hown hK hP 2 rfl rfl 0 (Nat.le_of_ble_eq_true rfl) (hts _ mw_220) (fun _ h9 => h9) rfl dX10_square_110 ?_
        obtain ⟨hPc, hDc, hFc, hI1⟩ := zi_sub (wc := [_, _, _]) hP hD hS hA [9, 10, 11] rfl rfl
        refine zcall (st1 := [.int (nI (Int.natAbs (ar2 4 P7 Q7 4)))]) (va_runV (As := []) (rest := []) ⟨hx, hb, hml, hown, hts⟩ (k_Row_doubleArea l dC dI cI cZ cF H.size dr dx dy 4 cd P7 Q7 1 (by first | with_reducible assumption | omega) (by first | with_reducible assumption | omega) (hp47)) (csV_123 hts rfl rfl ⟨Nat.le_of_ble_eq_true rfl, Nat.le_of_ble_eq_true rfl⟩) (zPV2 (q0 := 0) (ci := 6) hPc hDc hK3 hXN rfl rfl) rfl rfl hl.1 rfl (lv_room (Nat.le_of_ble_eq_true rfl)) dX10_square_113 ⟨Nat.zero_le _, Nat.zero_le _⟩) hS hFc hFc rfl (fun t H locs ht hB hk1 hS => ?_)
        obtain ⟨hP1, hD1⟩ := hB
        rw [ht] at hP1
        replace hP := z0 hP hD hk1 hP1 hI1
        clear hk1 hPc hDc hFc hP1 hD1 ht hI1
        refine lv_aload hx hb dX10_square_116 (lv_at hl 0 rfl) ?_
        obtain ⟨hPc, hDc, hFc, hI1⟩ := zi_sub (wc := [_, _, _]) hP hD hS hA [19, 20, 21] rfl rfl
        refine zcall (st1 := [.int (nI (Int.natAbs (ar2 (nN (mn f0)) X5 Y5 (nN (mn f0))))), .int (nI (Int.natAbs (ar2 4 P7 Q7 4)))]) (va_runV (As := []) (rest := [.int (nI (Int.natAbs (ar2 4 P7 Q7 4)))]) ⟨hx, hb, hml, hown, hts⟩ (k_Row_doubleArea l dC dI cI cZ cF H.size r5 rx5 ry5 (nN (mn f0)) cap5 X5 Y5 (rgK (kd f0).toInt) (by first | with_reducible assumption | omega) (by first | with_reducible assumption | omega) (hp5)) (csV_123 hts rfl rfl ⟨Nat.le_of_ble_eq_true rfl, Nat.le_of_ble_eq_true rfl⟩) (zPV2 (q0 := 0) (ci := 6) hPc hDc hK3 hXN rfl rfl) rfl rfl hl.1 rfl (lv_room (Nat.le_of_ble_eq_true rfl)) dX10_square_118 ⟨Nat.zero_le _, Nat.zero_le _⟩) hS hFc hFc rfl (fun t H locs ht hB hk1 hS => ?_)
        obtain ⟨hP1, hD1⟩ := hB
        rw [ht] at hP1
        replace hP := z0 hP hD hk1 hP1 hI1
        clear hk1 hPc hDc hFc hP1 hD1 ht hI1
        refine lv_isub hx hb dX10_square_121 ?_
        refine zz_i (v := iI (((Int.natAbs (ar2 4 P7 Q7 4) : Nat) : Int) - ((Int.natAbs (ar2 (nN (mn f0)) X5 Y5 (nN (mn f0))) : Nat) : Int))) (nn_sub (by omega) (by omega)) ?_
        refine lv_iload_n hx hb dX10_square_122 rfl (lv_at hl 4 rfl) ?_
        refine lv_icmp_le (tgt := 132) hx hb dX10_square_123 rfl (fun c_4 => ?_) (fun c_4 => ?_)
        · have c_4 : (((Int.natAbs (ar2 4 P7 Q7 4) : Nat) : Int) - ((Int.natAbs (ar2 (nN (mn f0)) X5 Y5 (nN (mn f0))) : Nat) : Int)) ≤ ms.toInt := zc_le (iI_toInt (by omega)) rfl c_4
          refine lv_aload_n hx hb dX10_square_132 rfl (lv_at hl 2 rfl) ?_
          refine va_get (D := (dC, dI)) (ci := 8) (v := .ref lw) (C := RX10) (T := TX10) (N := 13) hx hb hts inX10 hown hK hP 0 rfl rfl 1 (Nat.le_of_ble_eq_true rfl) (hts _ mw_310) (fun _ h9 => h9) rfl dX10_square_133 ?_
          refine lv_aload_n hx hb dX10_square_136 rfl (lv_at hl 2 rfl) ?_
          refine va_get (D := (dC, dI)) (ci := 8) (v := .ref sh) (C := RX10) (T := TX10) (N := 13) hx hb hts inX10 hown hK hP 0 rfl rfl 0 (Nat.le_of_ble_eq_true rfl) (hts _ mw_309) (fun _ h9 => h9) rfl dX10_square_137 ?_
          refine lv_aload_n hx hb dX10_square_140 rfl (lv_at hl 1 rfl) ?_
          refine lv_bipush (v := (-2)) hx hb dX10_square_141 rfl ?_
          obtain ⟨hPc, hDc, hFc⟩ := zo_part (cx := [_, _, _, _, _, _, _, _, _, _, _, _, _, _, _, _, _, _, _]) hP hD hS hA [2, 3, 4, 5, 6, 7, 8, 9, 10, 11, 12, 13, 15, 16, 17, 18, 19, 20, 21] (by decide +kernel) rfl
          refine zcall (st1 := [.int (pI (pls 4 P7 Q7 ∧ ((∀ i, i < edg 4 (1 : Int32) → eFr 4 P7 Q7 (1 : Int32) i (i + 1)) ∧ (¬ (6 : Int32).toInt = 6 ∨ ∀ k, k < 4 → eRt 4 P7 Q7 k)) ∧ ∀ q, q < ft → (q ≠ f0 → lvF ft st tn q → (apB (mnI (mnI (X5 0).toInt X5 (nN (mn f0))) P7 4) (mnI (mnI (Y5 0).toInt Y5 (nN (mn f0))) Q7 4) (mxI (mxI (X5 0).toInt X5 (nN (mn f0))) P7 4) (mxI (mxI (Y5 0).toInt Y5 (nN (mn f0))) Q7 4) (nN (mn q)) (cF40 cx q) (cF40 cy q) ∨ (asb (nN (mn f0)) X5 Y5 (rgK (kd f0).toInt) 4 P7 Q7 (1 : Int32) (nN (mn q)) (cF40 cx q) (cF40 cy q) (rgK (kd q).toInt))))))]) (va_runV (As := [.ref sh, .ref (fe f0), .int (-2)]) (rest := []) ⟨hx, hb, hml, hown, hts⟩ (k_Law_allows_b l dC dI cI cZ cF H.size lw dr tg wy br bo aa tx ty nt TX TY rt wx wz nw WX WY rw dx dy 4 cd P7 Q7 1 b1 b2 b3 b4 b5 b6 b7 b8 sh fa ft FA (fe f0) lo5 (rk f0) (wd f0) (tw f0) (pa f0) (pb f0) (la dn f0) (kd f0) (st f0) (gb f0) (it f0) (nI we5) r5 rx5 ry5 (nN (mn f0)) cap5 X5 Y5 (rgK (kd f0).toInt) f0 (.null) T_1 f kd st tn mn cx cy (by first | with_reducible assumption | omega) (by first | with_reducible assumption | omega) (hFA9 f0 (by first | with_reducible assumption | omega)) (hst) (by rw [← hT_1]; exact fc_vw hc5 (by first | with_reducible assumption | omega) (by first | with_reducible assumption | omega) hG.1 hG.2.1 hFA9 (Nat.le_refl _)) (hwf) (hkn) (by first | with_reducible assumption | omega) (by first | with_reducible assumption | omega) (by first | with_reducible assumption | omega) (by first | with_reducible assumption | omega) (hp5) (by first | with_reducible assumption | omega) (by first | with_reducible assumption | omega) (by have h9 := (hsm.2 (by first | with_reducible assumption | omega)).1; unfold mnc at h9; rw [if_pos (by first | with_reducible assumption | omega)] at h9; omega)) (csV_109 hts rfl rfl ⟨Nat.le_of_ble_eq_true rfl, Nat.le_of_ble_eq_true rfl⟩) (zPV2 (q0 := 0) (ci := 3) hPc hDc hK3 hXN rfl rfl) rfl rfl hl.1 rfl (lv_room (Nat.le_of_ble_eq_true rfl)) dX10_square_143 ⟨Nat.zero_le _, Nat.zero_le _⟩) hS hFc hFc rfl (fun t H locs ht hB hk1 hS => ?_)
          refine ex16 hB (fun nt8 TX8 TY8 rt8 nw8 WX8 WY8 rw8 g08 g18 g28 g38 g48 g58 g68 g78 hB0 => ?_)
          clear hB
          obtain ⟨hP1, hD1⟩ := hB0
          rw [ht] at hP1
          obtain ⟨hP, hD⟩ := znP (W2 := [_, _, _, (oc6 tg (.ref tx) (.ref ty) (nI nt8) rt8), (oa tx cI 3 TX8), (oa ty cI 3 TY8), (oc6 wy (.ref wx) (.ref wz) (nI nw8) rw8), (oa wx cI 2 WX8), (oa wz cI 2 WY8), _, _, _, (oc0 br g08 g18 g28 g38), (oc0 bo g48 g58 g68 g78), _, _, _, _, _, _, _, _, _, _, _]) hP hD hk1 hFc hP1 hD1 zl_117 zl_118 zl_118 zl_117 (by decide +kernel) rfl rfl rfl rfl rfl
          clear hk1 hPc hDc hFc hP1 hD1 ht
          refine lv_if_ne (tgt := 156) hx hb dX10_square_146 rfl (fun c_5 => ?_) (fun c_5 => ?_)
          · have c_5 : pls 4 P7 Q7 ∧ ((∀ i, i < edg 4 (1 : Int32) → eFr 4 P7 Q7 (1 : Int32) i (i + 1)) ∧ (¬ (6 : Int32).toInt = 6 ∨ ∀ k, k < 4 → eRt 4 P7 Q7 k)) ∧ ∀ q, q < ft → (q ≠ f0 → lvF ft st tn q → (apB (mnI (mnI (X5 0).toInt X5 (nN (mn f0))) P7 4) (mnI (mnI (Y5 0).toInt Y5 (nN (mn f0))) Q7 4) (mxI (mxI (X5 0).toInt X5 (nN (mn f0))) P7 4) (mxI (mxI (Y5 0).toInt Y5 (nN (mn f0))) Q7 4) (nN (mn q)) (cF40 cx q) (cF40 cy q) ∨ (asb (nN (mn f0)) X5 Y5 (rgK (kd f0).toInt) 4 P7 Q7 (1 : Int32) (nN (mn q)) (cF40 cx q) (cF40 cy q) (rgK (kd q).toInt)))) := zp_1 c_5
            refine lv_aload_n hx hb dX10_square_156 rfl (lv_at hl 1 rfl) ?_
            refine lv_aload_n hx hb dX10_square_157 rfl (lv_at hl 2 rfl) ?_
            refine va_get (D := (dC, dI)) (ci := 8) (v := .ref lw) (C := RX10) (T := TX10) (N := 13) hx hb hts inX10 hown hK hP 0 rfl rfl 1 (Nat.le_of_ble_eq_true rfl) (hts _ mw_310) (fun _ h9 => h9) rfl dX10_square_158 ?_
            refine va_get (D := (dC, dI)) (ci := 3) (v := .ref dr) (C := RX4) (T := TX4) (N := 6) hx hb hts inX4 hown hK hP 2 rfl rfl 0 (Nat.le_of_ble_eq_true rfl) (hts _ mw_220) (fun _ h9 => h9) rfl dX10_square_161 ?_
            obtain ⟨hPc, hDc, hFc⟩ := zo_sub (wc := [_, _, _, _, _]) hP hD hS hA [17, 18, 9, 10, 11] (by decide +kernel) rfl
            refine zcall (st1 := []) (va_runV (As := [.ref dr]) (rest := []) ⟨hx, hb, hml, hown, hts⟩ (k_Feature_reshape l dC dI cI cZ cF H.size (fe f0) lo5 (rk f0) (wd f0) (tw f0) (pa f0) (pb f0) (la dn f0) (kd f0) (st f0) (gb f0) (it f0) (nI we5) r5 dr dx dy 4 cd P7 Q7 1 (by first | with_reducible assumption | omega) (by first | with_reducible assumption | omega) (Or.inr rfl)) (csV_111 hts rfl rfl ⟨Nat.le_of_ble_eq_true rfl, Nat.le_of_ble_eq_true rfl⟩) (zPV2 (q0 := 0) (ci := 1) hPc hDc hK3 hXN rfl rfl) rfl rfl hl.1 rfl (lv_room (Nat.le_of_ble_eq_true rfl)) dX10_square_164 ⟨show (0 + 4) ≤ ft + 6 by omega, show (0 + (2 * 4 + 10)) ≤ 4 * ft + 830 by omega⟩) hS hFc hFc rfl (fun t H locs ht hB hk1 hS => ?_)
            refine ex6 hB (fun q7 w7 wx7 wy7 X7 Y7 hB0 => ?_)
            clear hB
            obtain ⟨hall7, hP1, hD1⟩ := hB0
            rw [ht] at hP1
            obtain ⟨hP, hD⟩ := znQ (W2 := [_, _, _, _, _, _, _, _, _, _, _, _, _, _, _, _, _, _, _, _, (oc1 (fe f0) (rk f0) (wd f0) (tw f0) (pa f0) (pb f0) (.ref lo5) (.ref q7) (.ref (la dn f0))), (oc4 (la dn f0) (kd f0) (st f0) (.ref r5) (gb f0) (it f0) (nI we5)), (oc4 q7 (kd f0) (st f0) (.ref w7) (gb f0) (it f0) (nI we5)), (oc6 dr (.ref dx) (.ref dy) (nI 4) 1), (oa dx cI cd P7), (oa dy cI cd Q7), (oc6 w7 (.ref wx7) (.ref wy7) (nI 4) 1), (oa wx7 cI 4 X7), (oa wy7 cI 4 Y7)]) hP hD hk1 hFc hP1 hD1 [17, 18, 9, 10, 11] zl_119 zl_120 zl_121 (by decide +kernel) rfl rfl rfl rfl rfl
            clear hk1 hPc hDc hFc hP1 hD1 ht
            refine lv_aload_n hx hb dX10_square_167 rfl (lv_at hl 1 rfl) ?_
            refine va_get (D := (dC, dI)) (ci := 1) (v := .ref q7) (C := RX2) (T := TX2) (N := 8) hx hb hts inX2 hown hK hP 20 rfl rfl 6 (Nat.le_of_ble_eq_true rfl) (hts _ mw_433) (fun _ h9 => h9) rfl dX10_square_168 ?_
            refine lv_bipush (v := 6) hx hb dX10_square_171 rfl ?_
            refine va_put (D := (dC, dI)) (ci := 4) (v := .int 6) (ty := .int) (C := RX5) (T := TX5) (N := 6) hx hb hts inX5 tyX5 tyX5_ok nmX5 hown hK hP hD hS 22 rfl rfl 0 (by decide) (hts _ mw_381) (fun _ h9 => h9) rfl (by decide +kernel) rfl rfl (Nat.le_of_ble_eq_true rfl) dX10_square_173 (fun H locs hP hD hS => ?_)
            obtain ⟨hP, hD⟩ := zre (W2 := ([_, _, _, _, _, _, _, _, _, _, _, _, _, _, _, _, _, _, _, _, _, _, (oc4 q7 6 (st f0) (.ref w7) (gb f0) (it f0) (nI we5)), _, _, _, _, _, _] ++ va_pl T_1 f)) hP hD rfl
            obtain ⟨hP, hD⟩ := zq_part (cx := [_, _, _, _, _, _, _, _, _, _, _, _, _, _, _, _, _, _, _, _, _, _, _, _, _, _, _, _, _]) hP hD [0, 1, 2, 3, 4, 5, 6, 7, 8, 9, 10, 11, 12, 13, 23, 24, 25, 20, 21, 14, 15, 16, 17, 18, 19, 22, 26, 27, 28] rfl rfl
            obtain ⟨Lp1, fp1, hP, hD, hpin_1⟩ := pl_pn (X := [_, _, _, _, _, _, _, _, _, _, _, _, _, _, _, _, _]) (old := [_, _, _, _, _, _, _, _]) (new := [_, _, _, _]) (cs1 := [_, _, _, _, _, _, _, _, _, _, _, _]) (L := L) (cs := [(oc1 (fe f0) (rk f0) (wd f0) (tw f0) (pa f0) (pb f0) (.ref lo5) (.ref (la dn f0)) .null), (oc4 (la dn f0) (kd f0) (st f0) (.ref r5) (gb f0) (it f0) (nI we5)), (oc6 r5 (.ref rx5) (.ref ry5) (nI (nN (mn f0))) (rgK (kd f0).toInt)), (oa rx5 cI cap5 X5), (oa ry5 cI cap5 Y5), (oc6 lo5 (.ref lx5) (.ref ly5) (nI ln5) 0), (oa lx5 cI (cl f0) LX5), (oa ly5 cI (cl f0) LY5)]) hT_1 hP hD rfl rfl rfl
            obtain ⟨hfr_1, hkp_1, hce_1, hsx_1, hpw_1⟩ := id hpin_1
            obtain ⟨own1, nw1, md1, fm1, hG1, hM1, hmd1, hO1⟩ := M_resh (kd1 := upd kd f0 6) (st1 := st) (gb1 := gb) (it1 := it) (mn1 := upd mn f0 4) (cx1 := bxX f0 z1 z3 4 cx) (cy1 := bxY f0 z2 z4 4 cy) hG hM rfl hf0 (by rw [← hft9]; exact hf0) (by omega) (by omega) htn hc5 ⟨rfl, rfl, rfl, rfl⟩ hpin_1 (fun p hp => ⟨if_neg hp, rfl, rfl, rfl, if_neg hp, fun k hk => ⟨bxX_o (by omega), bxY_o (by omega)⟩⟩) (up_at _ _ _) rfl rfl rfl rfl (by rw [up_at]; decide) (fun k hk => by have e9 := bx_f (f := f0) (cx := cx) (cy := cy) (P := P7) (Q := Q7) ⟨hp0.1.trans (hm8.1.trans hz1.symm), hq0.1.trans (hm8.2.2.1.trans hz2.symm)⟩ ⟨hp0.2.1.trans (hm8.2.1.trans hz3.symm), hq0.2.1.trans (hm8.2.2.1.trans hz2.symm)⟩ ⟨hp0.2.2.1.trans (hm8.2.1.trans hz3.symm), hq0.2.2.1.trans (hm8.2.2.2.trans hz4.symm)⟩ ⟨hp0.2.2.2.trans (hm8.1.trans hz1.symm), hq0.2.2.2.trans (hm8.2.2.2.trans hz4.symm)⟩ k hk; rw [(hall7 k hk).1, (hall7 k hk).2]; exact ⟨e9.1.symm, e9.2.symm⟩) (by omega) (by omega) (fun g => absurd g.2 (by decide)) hO (fun _ _ => ⟨rfl, rfl⟩) ⟨Nat.le_refl _, hat9.2⟩ hat9.1 (fun _ _ _ => rfl)
            refine lv_aload_n hx hb dX10_square_176 rfl (lv_at hl 2 rfl) ?_
            refine lv_iconst (v := 5) hx hb dX10_square_177 rfl ?_
            refine lv_iload_n hx hb dX10_square_178 rfl (lv_at hl 3 rfl) ?_
            refine lv_iconst (v := 0) hx hb dX10_square_179 rfl ?_
            refine lv_null hx hb dX10_square_180 ?_
            obtain ⟨hPc, hDc, hFc⟩ := zo_part (cx := [_, _, _, _]) hP hD hS hA [0, 1, 12, 13] (by decide +kernel) rfl
            refine zcall (st1 := [.int 1]) (va_runV (As := [.int 5, .int (nI f0), .int 0, .null]) (rest := []) ⟨hx, hb, hml, hown, hts⟩ (k_book_n l dC dI cI cZ cF H.size cO e0 mi x sh lw ro bq bp dq dp lv sl sd ul su sl ea T mc9 fa FA own1 fe cl la nw1 md1 sp fm1 SA bs dn ft FT V VX VY (V dn) tn rk wd tw pa pb wh of9 we (upd kd f0 6) st gb it (upd mn f0 4) (bxX f0 z1 z3 4 cx) (bxY f0 z2 z4 4 cy) 5 (nI f0) 0 Lp1 fp1 (hG1) (hM1) (hO1) (hdT) (hT5) (by first | with_reducible assumption | omega) (fun q h1 h2 => by omega) (hft9)) (csV_101 hts rfl rfl ⟨Nat.le_of_ble_eq_true rfl, Nat.le_of_ble_eq_true rfl⟩) (zPVL (q0 := 0) (ci := 8) hPc hDc hK hXL hS hFc rfl rfl) rfl rfl hl.1 rfl (lv_room (Nat.le_of_ble_eq_true rfl)) dX10_square_181 ⟨show ((0 + 4) + (ft + 2)) ≤ ft + 6 by omega, show ((0 + (2 * 4 + 10)) + (4 * ft + 805)) ≤ 4 * ft + 830 by omega⟩) hS hFc hFc rfl (fun t H locs ht hB hk1 hS => ?_)
            obtain ⟨mc6, L6, f6, ea6, hB6, hP1, hD1⟩ := hB
            rw [ht] at hP1
            obtain ⟨hP, hD⟩ := znP (W2 := [(oc8 x (.ref sh) (.ref lw) (.ref ro) (.ref bq) (.ref bp) (.ref dq) (.ref dp) (.ref lv) (.ref sl) (nI (dn + 1)) sd ul 0), (oc10 sl mc6 (.ref ea6) (nI (dn + 1))), _, _, _, _, _, _, _, _, _, _, _, _, _, _, _]) hP hD hk1 hFc hP1 hD1 [0, 1, 12, 13] zl_122 zl_122 [0, 1, 12, 13] (by decide +kernel) rfl rfl rfl rfl rfl
            clear hk1 hPc hDc hFc hP1 hD1 ht
            obtain ⟨hP9, hD9⟩ := zq_part (cx := [_, _, _, _, _, _, _, _, _, _, _, _, _, _, _, _, _]) hP hD [0, 1, 2, 3, 4, 5, 6, 7, 8, 14, 15, 16, 9, 10, 11, 12, 13] rfl rfl
            refine W.widen (k := ft + 6) (n := 4 * ft + 830) (by omega) (by omega) ?_
            rw [hQ9]
            exact W.zret (ty := .boolean) (v := 1) hx hb hr (rfl) (fun t ht hW => ⟨⟨rfl, mc6, L6, f6, ea6, nt8, TX8, TY8, rt8, nw8, WX8, WY8, rw8, g08, g18, g28, g38, g48, g58, g68, g78, P7, Q7, (iI (mnI (X5 0).toInt X5 (nN (mn f0)))), (iI (mnI (Y5 0).toInt Y5 (nN (mn f0)))), (iI (mxI (X5 0).toInt X5 (nN (mn f0)))), (iI (mxI (Y5 0).toInt Y5 (nN (mn f0)))), (hB6), by rw [ht]; exact hP9, hD9⟩, hS.F ht⟩) hS.2.2 dX10_square_184
          · have c_5 : ¬ (pls 4 P7 Q7 ∧ ((∀ i, i < edg 4 (1 : Int32) → eFr 4 P7 Q7 (1 : Int32) i (i + 1)) ∧ (¬ (6 : Int32).toInt = 6 ∨ ∀ k, k < 4 → eRt 4 P7 Q7 k)) ∧ ∀ q, q < ft → (q ≠ f0 → lvF ft st tn q → (apB (mnI (mnI (X5 0).toInt X5 (nN (mn f0))) P7 4) (mnI (mnI (Y5 0).toInt Y5 (nN (mn f0))) Q7 4) (mxI (mxI (X5 0).toInt X5 (nN (mn f0))) P7 4) (mxI (mxI (Y5 0).toInt Y5 (nN (mn f0))) Q7 4) (nN (mn q)) (cF40 cx q) (cF40 cy q) ∨ (asb (nN (mn f0)) X5 Y5 (rgK (kd f0).toInt) 4 P7 Q7 (1 : Int32) (nN (mn q)) (cF40 cx q) (cF40 cy q) (rgK (kd q).toInt))))) := zp_0 c_5
            exfalso; exact absurd (hlS.mpr hlaw) (by first | with_reducible assumption | assumption)
        · have c_4 : ms.toInt < (((Int.natAbs (ar2 4 P7 Q7 4) : Nat) : Int) - ((Int.natAbs (ar2 (nN (mn f0)) X5 Y5 (nN (mn f0))) : Nat) : Int)) := zc_nle (iI_toInt (by omega)) rfl c_4
          exfalso; omega
      · have c_3 : ms.toInt < 0 := zc_nle rfl rfl c_3
        exfalso; omega
    · have c_2 : ¬ (kd f0).toInt = 5 := zc_ne rfl rfl c_2
      exfalso; omega
  · have c_1 : ¬ (st f0).toInt = 1 := zc_ne rfl rfl c_1
    exfalso; omega
end
section
set_option maxHeartbeats 4000000 in
set_option maxRecDepth 100000 in
theorem k_run_0 (l : Launch) (dC : Nat → ClassId) (dI : Nat → Nat → Nat) (cI cZ cF : ClassId) (sz : Nat) (cO : ClassId) (e0 : Nat) (mi : Nat) (x : Nat) (sh : Nat) (lw : Nat) (ro : Nat) (bq : Nat) (bp : Nat) (dq : Nat) (dp : Nat) (lv : Nat) (sl : Nat) (sd : Int32) (ul : Int32) (su : Int32) (ea : Nat) (mc9 : Int32) (fa : Nat) (FA : Nat → Option Nat) (bs : Nat) (dn : Nat) (T : Nat) (ft : Nat) (FT : Nat → Nat) (V : Nat → Nat → Nat → Int32) (VX : Nat → Nat → Int32) (VY : Nat → Nat → Int32) (tn : Nat → Int32) (rk : Nat → Int32) (wd : Nat → Int32) (tw : Nat → Int32) (pa : Nat → Int32) (pb : Nat → Int32) (wh : Nat → Int32) (of9 : Nat → Int32) (we : Nat → Int32) (kd : Nat → Int32) (st : Nat → Int32) (gb : Nat → Int32) (it : Nat → Int32) (mn : Nat → Int32) (cx : Nat → Int32) (cy : Nat → Int32) (L : List Nat) (f : Nat → va_E) (dr : Nat) (tg : Nat) (wy : Nat) (br : Nat) (bo : Nat) (aa : Nat) (tx : Nat) (ty : Nat) (nt : Nat) (TX : Nat → Int32) (TY : Nat → Int32) (rt : Int32) (wx : Nat) (wz : Nat) (nw : Nat) (WX : Nat → Int32) (WY : Nat → Int32) (rw : Int32) (dx : Nat) (dy : Nat) (nd : Nat) (cd : Nat) (P : Nat → Int32) (Q : Nat → Int32) (rd : Int32) (b1 : Int32) (b2 : Int32) (b3 : Int32) (b4 : Int32) (b5 : Int32) (b6 : Int32) (b7 : Int32) (b8 : Int32) (AR : Nat → Int32) (LM : Nat) (lim : Int32) (hB : shB cI cO L f e0 FA ea bs dn T ft FT V VX VY tn rk wd tw pa pb wh of9 we kd st gb it mn cx cy) (hok : okA ft st tn kd mn cx cy) (hL : lim.toInt = ((LM : Nat) : Int)) (hcd : 40 ≤ cd ∧ cd ≤ 1000) (hno : ∀ q, lvF ft st tn q → (1 ≤ (kd q).toInt ∧ (kd q).toInt ≤ 5) → plN ft st tn kd q LM 0 mn cx cy (nN (mn q)) mn cx cy (nN (mn q))) : zML l yX10_run cX10_run 7 (some .int) ({ frames := 7, cells := 0, slots := 0, locals := 182 } : Room) [.ref x, .int lim] (dC, dI) (zTyO cI cZ cF cO) e0 mi ([(oc8 x (.ref sh) (.ref lw) (.ref ro) (.ref bq) (.ref bp) (.ref dq) (.ref dp) (.ref lv) (.ref sl) (nI dn) sd ul su), (oc10 sl mc9 (.ref ea) (nI T)), (oc3 lw (.ref dr) (.ref tg) (.ref wy) (.ref br) (.ref bo) (.ref aa)), (oc6 tg (.ref tx) (.ref ty) (nI nt) rt), (oa tx cI 3 TX), (oa ty cI 3 TY), (oc6 wy (.ref wx) (.ref wz) (nI nw) rw), (oa wx cI 2 WX), (oa wz cI 2 WY), (oc6 dr (.ref dx) (.ref dy) (nI nd) rd), (oa dx cI cd P), (oa dy cI cd Q), (oc0 br b1 b2 b3 b4), (oc0 bo b5 b6 b7 b8), (oa aa cI 40 AR), (oc7 sh (.ref fa) (nI ft)), (oq fa cF 200 FA)] ++ va_pl L f) sz (some (.int (-1))) (fun A t => ∃ (nt1 : Nat), ∃ (TX1 : Nat → Int32), ∃ (TY1 : Nat → Int32), ∃ (rt1 : Int32), ∃ (nw1 : Nat), ∃ (WX1 : Nat → Int32), ∃ (WY1 : Nat → Int32), ∃ (rw1 : Int32), ∃ (nd1 : Nat), ∃ (P1 : Nat → Int32), ∃ (Q1 : Nat → Int32), ∃ (rd1 : Int32), ∃ (d5 : Int32), ∃ (d6 : Int32), ∃ (d7 : Int32), ∃ (d8 : Int32), ∃ (e5 : Int32), ∃ (e6 : Int32), ∃ (e7 : Int32), ∃ (e8 : Int32), ∃ (AR1 : Nat → Int32), zPD (dC, dI) classes A ([(oc8 x (.ref sh) (.ref lw) (.ref ro) (.ref bq) (.ref bp) (.ref dq) (.ref dp) (.ref lv) (.ref sl) (nI dn) sd ul 8), (oc10 sl mc9 (.ref ea) (nI T)), (oc3 lw (.ref dr) (.ref tg) (.ref wy) (.ref br) (.ref bo) (.ref aa)), (oc6 tg (.ref tx) (.ref ty) (nI nt1) rt1), (oa tx cI 3 TX1), (oa ty cI 3 TY1), (oc6 wy (.ref wx) (.ref wz) (nI nw1) rw1), (oa wx cI 2 WX1), (oa wz cI 2 WY1), (oc6 dr (.ref dx) (.ref dy) (nI nd1) rd1), (oa dx cI cd P1), (oa dy cI cd Q1), (oc0 br d5 d6 d7 d8), (oc0 bo e5 e6 e7 e8), (oa aa cI 40 AR1), (oc7 sh (.ref fa) (nI ft)), (oq fa cF 200 FA)] ++ va_pl L f) t.heap) 0 0 := by
  refine zInL (own := "ScaleShop") (loc := [(0, .ref x), (1, .int lim)]) rfl rfl rfl rfl (fun p e s m below meth c hx hb hr hts hown hlocks hml hnm9 A hA hS hP hD hK hXL hXN hK3 Q9 hQ9 ls hl => ?_)
  have hB9 := hB
  obtain ⟨own, fe, cl, la, sp, SA, hG9, hH9, hft9, hO9⟩ := hB
  obtain ⟨hG, hM, hdT, hT5, hO⟩ := M_0 hG9 hH9 hft9 hO9
  have h200 : ft ≤ 200 := hG.2.2.2.2.2.1.2.2.2.2.2
  have hFA9 := hG.2.2.2.2.2.2
  refine lv_iload_n hx hb dX10_run_0 rfl (lv_at hl 1 rfl) ?_
  refine lv_if_ge (tgt := 10) hx hb dX10_run_1 rfl (fun c_1 => ?_) (fun c_1 => ?_)
  · have c_1 : 0 ≤ lim.toInt := zc_le rfl rfl c_1
    refine lv_iconst (v := 0) hx hb dX10_run_10 rfl ?_
    refine lv_istore_n (lv' := [(2, .int 0), (0, .ref x), (1, .int lim)]) hx hb dX10_run_11 rfl hl (Nat.le_of_ble_eq_true rfl) rfl (fun ls hl => ?_)
    refine lv_iconst (v := 0) hx hb dX10_run_12 rfl ?_
    refine lv_istore_n (lv' := [(3, .int 0), (2, .int 0), (0, .ref x), (1, .int lim)]) hx hb dX10_run_13 rfl hl (Nat.le_of_ble_eq_true rfl) rfl (fun ls hl => ?_)
    refine lv_iload_n hx hb dX10_run_14 rfl (lv_at hl 0 rfl) ?_
    refine lv_sipush (v := 8001) hx hb dX10_run_15 rfl ?_
    refine lv_icmp_ge (tgt := 106) hx hb dX10_run_18 rfl (fun c_2 => ?_) (fun c_2 => ?_)
    · exact absurd c_2 (by decide)
    · refine lv_iload_n hx hb dX10_run_21 rfl (lv_at hl 1 rfl) ?_
      refine lv_istore (lv' := [(4, .int 0), (3, .int 0), (2, .int 0), (0, .ref x), (1, .int lim)]) hx hb dX10_run_22 hl (Nat.le_of_ble_eq_true rfl) rfl (fun ls hl => ?_)
      refine lv_iconst (v := 0) hx hb dX10_run_24 rfl ?_
      refine lv_istore (lv' := [(5, .int 0), (4, .int 0), (3, .int 0), (2, .int 0), (0, .ref x), (1, .int lim)]) hx hb dX10_run_25 hl (Nat.le_of_ble_eq_true rfl) rfl (fun ls hl => ?_)
      have hl_27 : ∀ (n9 : Nat) (g5 : Nat) (nt1 : Nat) (TX1 : Nat → Int32) (TY1 : Nat → Int32) (rt1 : Int32) (nw1 : Nat) (WX1 : Nat → Int32) (WY1 : Nat → Int32) (rw1 : Int32) (nd1 : Nat) (P1 : Nat → Int32) (Q1 : Nat → Int32) (rd1 : Int32) (d5 : Int32) (d6 : Int32) (d7 : Int32) (d8 : Int32) (e5 : Int32) (e6 : Int32) (e7 : Int32) (e8 : Int32) (AR1 : Nat → Int32) (H : Heap) (locs : List Loc) (ls : Array Slot), ft - g5 < n9 → (g5 ≤ ft) → va_P (dC, dI) classes ([(oc8 x (.ref sh) (.ref lw) (.ref ro) (.ref bq) (.ref bp) (.ref dq) (.ref dp) (.ref lv) (.ref sl) (nI dn) sd ul su), (oc10 sl mc9 (.ref ea) (nI T)), (oc3 lw (.ref dr) (.ref tg) (.ref wy) (.ref br) (.ref bo) (.ref aa)), (oc6 tg (.ref tx) (.ref ty) (nI nt1) rt1), (oa tx cI 3 TX1), (oa ty cI 3 TY1), (oc6 wy (.ref wx) (.ref wz) (nI nw1) rw1), (oa wx cI 2 WX1), (oa wz cI 2 WY1), (oc6 dr (.ref dx) (.ref dy) (nI nd1) rd1), (oa dx cI cd P1), (oa dy cI cd Q1), (oc0 br d5 d6 d7 d8), (oc0 bo e5 e6 e7 e8), (oa aa cI 40 AR1), (oc7 sh (.ref fa) (nI ft)), (oq fa cF 200 FA)] ++ va_pl L f) H → va_D A ([(oc8 x (.ref sh) (.ref lw) (.ref ro) (.ref bq) (.ref bp) (.ref dq) (.ref dp) (.ref lv) (.ref sl) (nI dn) sd ul su), (oc10 sl mc9 (.ref ea) (nI T)), (oc3 lw (.ref dr) (.ref tg) (.ref wy) (.ref br) (.ref bo) (.ref aa)), (oc6 tg (.ref tx) (.ref ty) (nI nt1) rt1), (oa tx cI 3 TX1), (oa ty cI 3 TY1), (oc6 wy (.ref wx) (.ref wz) (nI nw1) rw1), (oa wx cI 2 WX1), (oa wz cI 2 WY1), (oc6 dr (.ref dx) (.ref dy) (nI nd1) rd1), (oa dx cI cd P1), (oa dy cI cd Q1), (oc0 br d5 d6 d7 d8), (oc0 bo e5 e6 e7 e8), (oa aa cI 40 AR1), (oc7 sh (.ref fa) (nI ft)), (oq fa cF 200 FA)] ++ va_pl L f) → va_S A s.heap H locs → lv_has ls 7 [(5, .int (nI g5)), (4, .int 0), (3, .int 0), (2, .int 0), (0, .ref x), (1, .int lim)] → W p l e ({ frames := 7, cells := 0, slots := 0, locals := 182 } : Room) s m ([.ref x, .int lim] : List Value).toArray below meth c H locs 0 0 Q9 (F0 m 27 ls []) := by
        intro n9
        induction n9 with
        | zero => intro g5 nt1 TX1 TY1 rt1 nw1 WX1 WY1 rw1 nd1 P1 Q1 rd1 d5 d6 d7 d8 e5 e6 e7 e8 AR1 H locs ls hm; exact absurd hm (Nat.not_lt_zero _)
        | succ n9 ih_27 =>
          intro g5 nt1 TX1 TY1 rt1 nw1 WX1 WY1 rw1 nd1 P1 Q1 rd1 d5 d6 d7 d8 e5 e6 e7 e8 AR1 H locs ls hm hg5 hP hD hS hl
          refine lv_iload hx hb dX10_run_27 (lv_at hl 0 rfl) ?_
          refine lv_aload_n hx hb dX10_run_29 rfl (lv_at hl 4 rfl) ?_
          refine va_get (D := (dC, dI)) (ci := 8) (v := .ref sh) (C := RX10) (T := TX10) (N := 13) hx hb hts inX10 hown hK hP 0 rfl rfl 0 (Nat.le_of_ble_eq_true rfl) (hts _ mw_309) (fun _ h9 => h9) rfl dX10_run_30 ?_
          refine va_get (D := (dC, dI)) (ci := 7) (v := .int (nI ft)) (C := RX8) (T := TX8) (N := 2) hx hb hts inX8 hown hK hP 15 rfl rfl 1 (Nat.le_of_ble_eq_true rfl) (hts _ mw_140) (fun _ h9 => h9) rfl dX10_run_33 ?_
          have b9_4 : zlt (g5) := show g5 < 2147483648 by omega
          have b9_5 : zlt (ft) := show ft < 2147483648 by omega
          refine lv_icmp_ge (tgt := 91) hx hb dX10_run_36 rfl (fun c_3 => ?_) (fun c_3 => ?_)
          · have c_3 : ((ft : Nat) : Int) ≤ ((g5 : Nat) : Int) := zc_le (nI_toInt b9_5) (nI_toInt b9_4) c_3
            refine lv_iload_n hx hb dX10_run_91 rfl (lv_at hl 3 rfl) ?_
            refine lv_iload hx hb dX10_run_92 (lv_at hl 1 rfl) ?_
            refine lv_icmp_ne (tgt := 100) hx hb dX10_run_94 rfl (fun c_6 => ?_) (fun c_6 => ?_)
            · exact absurd (by decide) c_6
            · refine lv_goto (tgt := 106) hx hb dX10_run_97 rfl ?_
              refine lv_iload_n hx hb dX10_run_106 rfl (lv_at hl 3 rfl) ?_
              refine lv_if_ne (tgt := 117) hx hb dX10_run_107 rfl (fun c_7 => ?_) (fun c_7 => ?_)
              · exact absurd (by decide) c_7
              · refine lv_aload_n hx hb dX10_run_110 rfl (lv_at hl 4 rfl) ?_
                refine lv_bipush (v := 8) hx hb dX10_run_111 rfl ?_
                obtain ⟨hPc, hDc, hFc⟩ := zo_sub (wc := [_]) hP hD hS hA [0] rfl rfl
                refine zcall (st1 := [.int (-1)]) (va_runV (As := [.int 8]) (rest := []) ⟨hx, hb, hml, hown, hts⟩ (k_refuse_8 l dC dI cI cZ cF H.size x sh lw ro bq bp dq dp lv sl sd ul su (nI dn) ) (csV_95 hts rfl rfl ⟨Nat.le_of_ble_eq_true rfl, Nat.le_of_ble_eq_true rfl⟩) (zPV2 (q0 := 0) (ci := 8) hPc hDc hK3 hXN rfl rfl) rfl rfl hl.1 rfl (lv_room (Nat.le_of_ble_eq_true rfl)) dX10_run_113 ⟨Nat.le_of_ble_eq_true rfl, Nat.le_of_ble_eq_true rfl⟩) hS hFc hFc rfl (fun t H locs ht hB hk1 hS => ?_)
                obtain ⟨hP1, hD1⟩ := hB
                rw [ht] at hP1
                obtain ⟨hP, hD⟩ := znQ (W2 := [(oc8 x (.ref sh) (.ref lw) (.ref ro) (.ref bq) (.ref bp) (.ref dq) (.ref dp) (.ref lv) (.ref sl) (nI dn) sd ul 8), _, _, _, _, _, _, _, _, _, _, _, _, _, _, _, _]) hP hD hk1 hFc hP1 hD1 [0] zl_123 zl_123 [0] (by decide +kernel) rfl rfl rfl rfl rfl
                clear hk1 hPc hDc hFc hP1 hD1 ht
                obtain ⟨hP9, hD9⟩ := zu_part (cx := [_, _, _, _, _, _, _, _, _, _, _, _, _, _, _, _, _]) hP hD [true, true, true, true, true, true, true, true, true, true, true, true, true, true, true, true, true] rfl rfl
                rw [hQ9]
                exact W.iret (v := (-1)) hx hb hr (fun t ht hW => ⟨⟨rfl, nt1, TX1, TY1, rt1, nw1, WX1, WY1, rw1, nd1, P1, Q1, rd1, d5, d6, d7, d8, e5, e6, e7, e8, AR1, by rw [ht]; exact hP9, hD9⟩, hS.F ht⟩) hS.2.2 dX10_run_116
          · have c_3 : ((g5 : Nat) : Int) < ((ft : Nat) : Int) := zc_nle (nI_toInt b9_5) (nI_toInt b9_4) c_3
            rcases run_c (shB_vw hB9) (show g5 < ft by omega) with ⟨ht2, hvt⟩ | ⟨ht2, hA2, hvl⟩ | ⟨hlv, hbd9⟩
            · skip
              obtain ⟨fe2, lk2, lo2, rk2, wd2, tw2, pa2, pb2, gb2, jt2, we2, fm2, hFA2, hfe2, hlk2⟩ := hvt
              have hc9_1 : inPl L f [(oc1 fe2 rk2 wd2 tw2 pa2 pb2 (.ref lo2) (.ref lk2) fm2), (oc4 lk2 (kd g5) (st g5) .null gb2 jt2 we2)] := ⟨hfe2, hlk2, trivial⟩
              have hD0_1 := hD
              obtain ⟨T_1, hT_1, hP, hD⟩ := pl_oT hP hD hc9_1 (pwF hfe2.2 hlk2.2)
              obtain ⟨hP, hD⟩ := zre (W2 := ([_, _, _, _, _, _, _, _, _, _, _, _, _, _, _, _, _, _, _] ++ va_pl T_1 f)) hP hD rfl
              refine lv_aload_n hx hb dX10_run_39 rfl (lv_at hl 4 rfl) ?_
              refine va_get (D := (dC, dI)) (ci := 8) (v := .ref sh) (C := RX10) (T := TX10) (N := 13) hx hb hts inX10 hown hK hP 0 rfl rfl 0 (Nat.le_of_ble_eq_true rfl) (hts _ mw_309) (fun _ h9 => h9) rfl dX10_run_40 ?_
              refine lv_iload hx hb dX10_run_43 (lv_at hl 0 rfl) ?_
              obtain ⟨hPc, hDc, hFc, hI1⟩ := zi_sub (wc := [_, _]) hP hD hS hA [15, 16] rfl rfl
              refine zcall (st1 := [.ref fe2]) (va_runV (As := [.int (nI g5)]) (rest := []) ⟨hx, hb, hml, hown, hts⟩ (k_Sheet_find l dC dI cI cZ cF H.size sh fa ft FA g5 fe2 (by first | with_reducible assumption | omega) (by first | with_reducible assumption | omega) (by first | exact hFA2 | exact hFA9 g5 (by first | with_reducible assumption | omega))) (csV_94 hts rfl rfl ⟨Nat.le_of_ble_eq_true rfl, Nat.le_of_ble_eq_true rfl⟩) (zPV2 (q0 := 0) (ci := 7) hPc hDc hK3 hXN rfl rfl) rfl rfl hl.1 rfl (lv_room (Nat.le_of_ble_eq_true rfl)) dX10_run_45 ⟨Nat.le_of_ble_eq_true rfl, Nat.le_of_ble_eq_true rfl⟩) hS hFc hFc rfl (fun t H locs ht hB hk1 hS => ?_)
              obtain ⟨hP1, hD1⟩ := hB
              rw [ht] at hP1
              replace hP := z0 hP hD hk1 hP1 hI1
              clear hk1 hPc hDc hFc hP1 hD1 ht hI1
              refine lv_astore (lv' := [(6, .ref fe2), (5, .int (nI g5)), (4, .int 0), (3, .int 0), (2, .int 0), (0, .ref x), (1, .int lim)]) hx hb dX10_run_48 hl (Nat.le_of_ble_eq_true rfl) rfl (fun ls hl => ?_)
              refine lv_aload hx hb dX10_run_50 (lv_at hl 0 rfl) ?_
              refine lv_ifnull hx hb dX10_run_52 ?_
              refine lv_aload hx hb dX10_run_55 (lv_at hl 0 rfl) ?_
              obtain ⟨hPc, hDc, hFc, hI1⟩ := zi_sub (wc := [_, _]) hP hD hS hA [17, 18] rfl rfl
              refine zcall (st1 := [.int (pI (1 ≤ (kd g5).toInt ∧ (kd g5).toInt ≤ 5))]) (va_runV (As := []) (rest := []) ⟨hx, hb, hml, hown, hts⟩ (k_Feature_bends_v l dC dI cI cZ cF H.size fe2 lo2 rk2 wd2 tw2 pa2 pb2 lk2 (kd g5) (st g5) gb2 jt2 we2 fm2 (.null) ) (csV_97 hts rfl rfl ⟨Nat.le_of_ble_eq_true rfl, Nat.le_of_ble_eq_true rfl⟩) (zPV2 (q0 := 0) (ci := 1) hPc hDc hK3 hXN rfl rfl) rfl rfl hl.1 rfl (lv_room (Nat.le_of_ble_eq_true rfl)) dX10_run_57 ⟨Nat.le_of_ble_eq_true rfl, Nat.le_of_ble_eq_true rfl⟩) hS hFc hFc rfl (fun t H locs ht hB hk1 hS => ?_)
              obtain ⟨hP1, hD1⟩ := hB
              rw [ht] at hP1
              replace hP := z0 hP hD hk1 hP1 hI1
              clear hk1 hPc hDc hFc hP1 hD1 ht hI1
              refine lv_if_eq (tgt := 85) hx hb dX10_run_60 rfl (fun c_8 => ?_) (fun c_8 => ?_)
              · have c_8 : ¬ (1 ≤ (kd g5).toInt ∧ (kd g5).toInt ≤ 5) := zp_0 c_8
                obtain ⟨hP, hD⟩ := pl_bk (X := [_, _, _, _, _, _, _, _, _, _, _, _, _, _, _, _, _]) hT_1 hP rfl hc9_1 hD0_1 rfl
                refine lv_iinc (v := nI (g5 + 1)) (lv' := [(5, .int (nI (g5 + 1))), (6, .ref fe2), (4, .int 0), (3, .int 0), (2, .int 0), (0, .ref x), (1, .int lim)]) hx hb dX10_run_85 hl (k := 1) rfl (nI_add g5 1) (Nat.le_of_ble_eq_true rfl) rfl (fun ls hl => ?_)
                refine lv_goto (tgt := 27) hx hb dX10_run_88 rfl ?_
                exact ih_27 (g5 + 1) nt1 TX1 TY1 rt1 nw1 WX1 WY1 rw1 nd1 P1 Q1 rd1 d5 d6 d7 d8 e5 e6 e7 e8 AR1 H locs ls (by first | with_reducible assumption | omega) (by first | with_reducible assumption | omega) hP hD hS (lv_sub hl [0, 2, 3, 4, 5, 6] rfl)
              · have c_8 : 1 ≤ (kd g5).toInt ∧ (kd g5).toInt ≤ 5 := zp_1 c_8
                refine lv_aload_n hx hb dX10_run_63 rfl (lv_at hl 5 rfl) ?_
                refine va_get (D := (dC, dI)) (ci := 8) (v := .ref sh) (C := RX10) (T := TX10) (N := 13) hx hb hts inX10 hown hK hP 0 rfl rfl 0 (Nat.le_of_ble_eq_true rfl) (hts _ mw_309) (fun _ h9 => h9) rfl dX10_run_64 ?_
                refine lv_iload hx hb dX10_run_67 (lv_at hl 1 rfl) ?_
                obtain ⟨hPc, hDc, hFc, hI1⟩ := zi_sub (wc := [_, _, _, _]) hP hD hS hA [15, 16, 17, 18] (by decide +kernel) rfl
                refine zcall (st1 := [.null]) (va_runV (As := [.int (nI g5)]) (rest := []) ⟨hx, hb, hml, hown, hts⟩ (k_Sheet_rowThere_tv l dC dI cI cZ cF H.size sh fa ft FA g5 fe2 lo2 rk2 wd2 tw2 pa2 pb2 lk2 (kd g5) (st g5) gb2 jt2 we2 fm2 (by first | with_reducible assumption | omega) (by first | with_reducible assumption | omega) (by first | exact hFA2 | exact hFA9 g5 (by first | with_reducible assumption | omega))) (csV_144 hts rfl rfl ⟨Nat.le_of_ble_eq_true rfl, Nat.le_of_ble_eq_true rfl⟩) (zPV2 (q0 := 0) (ci := 7) hPc hDc hK3 hXN rfl rfl) rfl rfl hl.1 rfl (lv_room (Nat.le_of_ble_eq_true rfl)) dX10_run_69 ⟨Nat.le_of_ble_eq_true rfl, Nat.le_of_ble_eq_true rfl⟩) hS hFc hFc rfl (fun t H locs ht hB hk1 hS => ?_)
                obtain ⟨hP1, hD1⟩ := hB
                rw [ht] at hP1
                replace hP := z0 hP hD hk1 hP1 hI1
                clear hk1 hPc hDc hFc hP1 hD1 ht hI1
                refine lv_ifnullN (tgt := 85) hx hb dX10_run_72 rfl ?_
                obtain ⟨hP, hD⟩ := pl_bk (X := [_, _, _, _, _, _, _, _, _, _, _, _, _, _, _, _, _]) hT_1 hP rfl hc9_1 hD0_1 rfl
                refine lv_iinc (v := nI (g5 + 1)) (lv' := [(5, .int (nI (g5 + 1))), (6, .ref fe2), (4, .int 0), (3, .int 0), (2, .int 0), (0, .ref x), (1, .int lim)]) hx hb dX10_run_85 hl (k := 1) rfl (nI_add g5 1) (Nat.le_of_ble_eq_true rfl) rfl (fun ls hl => ?_)
                refine lv_goto (tgt := 27) hx hb dX10_run_88 rfl ?_
                exact ih_27 (g5 + 1) nt1 TX1 TY1 rt1 nw1 WX1 WY1 rw1 nd1 P1 Q1 rd1 d5 d6 d7 d8 e5 e6 e7 e8 AR1 H locs ls (by first | with_reducible assumption | omega) (by first | with_reducible assumption | omega) hP hD hS (lv_sub hl [0, 2, 3, 4, 5, 6] rfl)
            · skip
              obtain ⟨fe2, lk2, lo2, rk2, wd2, tw2, pa2, pb2, gb2, jt2, we2, fm2, r2, rx2, ry2, cap2, U2, V2, rg2, hFA2, hfe2, hlk2, ⟨hr2, hrx2, hry2, hne2⟩, hrr2⟩ := hvl
              have hc9_1 : inPl L f [(oc1 fe2 rk2 wd2 tw2 pa2 pb2 (.ref lo2) (.ref lk2) fm2), (oc4 lk2 (kd g5) (st g5) (.ref r2) gb2 jt2 we2), (oc6 r2 (.ref rx2) (.ref ry2) (nI (nN (mn g5))) rg2), (oa rx2 cI cap2 U2), (oa ry2 cI cap2 V2)] := ⟨hfe2, hlk2, hr2, hrx2, hry2, trivial⟩
              have hD0_1 := hD
              obtain ⟨T_1, hT_1, hP, hD⟩ := pl_oT hP hD hc9_1 (pwR hfe2.2 hlk2.2 hr2.2 hrx2.2 hry2.2 hne2)
              obtain ⟨hP, hD⟩ := zre (W2 := ([_, _, _, _, _, _, _, _, _, _, _, _, _, _, _, _, _, _, _, _, _, _] ++ va_pl T_1 f)) hP hD rfl
              refine lv_aload_n hx hb dX10_run_39 rfl (lv_at hl 4 rfl) ?_
              refine va_get (D := (dC, dI)) (ci := 8) (v := .ref sh) (C := RX10) (T := TX10) (N := 13) hx hb hts inX10 hown hK hP 0 rfl rfl 0 (Nat.le_of_ble_eq_true rfl) (hts _ mw_309) (fun _ h9 => h9) rfl dX10_run_40 ?_
              refine lv_iload hx hb dX10_run_43 (lv_at hl 0 rfl) ?_
              obtain ⟨hPc, hDc, hFc, hI1⟩ := zi_sub (wc := [_, _]) hP hD hS hA [15, 16] rfl rfl
              refine zcall (st1 := [.ref fe2]) (va_runV (As := [.int (nI g5)]) (rest := []) ⟨hx, hb, hml, hown, hts⟩ (k_Sheet_find l dC dI cI cZ cF H.size sh fa ft FA g5 fe2 (by first | with_reducible assumption | omega) (by first | with_reducible assumption | omega) (by first | exact hFA2 | exact hFA9 g5 (by first | with_reducible assumption | omega))) (csV_94 hts rfl rfl ⟨Nat.le_of_ble_eq_true rfl, Nat.le_of_ble_eq_true rfl⟩) (zPV2 (q0 := 0) (ci := 7) hPc hDc hK3 hXN rfl rfl) rfl rfl hl.1 rfl (lv_room (Nat.le_of_ble_eq_true rfl)) dX10_run_45 ⟨Nat.le_of_ble_eq_true rfl, Nat.le_of_ble_eq_true rfl⟩) hS hFc hFc rfl (fun t H locs ht hB hk1 hS => ?_)
              obtain ⟨hP1, hD1⟩ := hB
              rw [ht] at hP1
              replace hP := z0 hP hD hk1 hP1 hI1
              clear hk1 hPc hDc hFc hP1 hD1 ht hI1
              refine lv_astore (lv' := [(6, .ref fe2), (5, .int (nI g5)), (4, .int 0), (3, .int 0), (2, .int 0), (0, .ref x), (1, .int lim)]) hx hb dX10_run_48 hl (Nat.le_of_ble_eq_true rfl) rfl (fun ls hl => ?_)
              refine lv_aload hx hb dX10_run_50 (lv_at hl 0 rfl) ?_
              refine lv_ifnull hx hb dX10_run_52 ?_
              refine lv_aload hx hb dX10_run_55 (lv_at hl 0 rfl) ?_
              obtain ⟨hPc, hDc, hFc, hI1⟩ := zi_sub (wc := [_, _]) hP hD hS hA [17, 18] rfl rfl
              refine zcall (st1 := [.int (pI (1 ≤ (kd g5).toInt ∧ (kd g5).toInt ≤ 5))]) (va_runV (As := []) (rest := []) ⟨hx, hb, hml, hown, hts⟩ (k_Feature_bends_v l dC dI cI cZ cF H.size fe2 lo2 rk2 wd2 tw2 pa2 pb2 lk2 (kd g5) (st g5) gb2 jt2 we2 fm2 (.ref r2) ) (csV_97 hts rfl rfl ⟨Nat.le_of_ble_eq_true rfl, Nat.le_of_ble_eq_true rfl⟩) (zPV2 (q0 := 0) (ci := 1) hPc hDc hK3 hXN rfl rfl) rfl rfl hl.1 rfl (lv_room (Nat.le_of_ble_eq_true rfl)) dX10_run_57 ⟨Nat.le_of_ble_eq_true rfl, Nat.le_of_ble_eq_true rfl⟩) hS hFc hFc rfl (fun t H locs ht hB hk1 hS => ?_)
              obtain ⟨hP1, hD1⟩ := hB
              rw [ht] at hP1
              replace hP := z0 hP hD hk1 hP1 hI1
              clear hk1 hPc hDc hFc hP1 hD1 ht hI1
              refine lv_if_eq (tgt := 85) hx hb dX10_run_60 rfl (fun c_9 => ?_) (fun c_9 => ?_)
              · have c_9 : ¬ (1 ≤ (kd g5).toInt ∧ (kd g5).toInt ≤ 5) := zp_0 c_9
                obtain ⟨hP, hD⟩ := pl_bk (X := [_, _, _, _, _, _, _, _, _, _, _, _, _, _, _, _, _]) hT_1 hP rfl hc9_1 hD0_1 rfl
                refine lv_iinc (v := nI (g5 + 1)) (lv' := [(5, .int (nI (g5 + 1))), (6, .ref fe2), (4, .int 0), (3, .int 0), (2, .int 0), (0, .ref x), (1, .int lim)]) hx hb dX10_run_85 hl (k := 1) rfl (nI_add g5 1) (Nat.le_of_ble_eq_true rfl) rfl (fun ls hl => ?_)
                refine lv_goto (tgt := 27) hx hb dX10_run_88 rfl ?_
                exact ih_27 (g5 + 1) nt1 TX1 TY1 rt1 nw1 WX1 WY1 rw1 nd1 P1 Q1 rd1 d5 d6 d7 d8 e5 e6 e7 e8 AR1 H locs ls (by first | with_reducible assumption | omega) (by first | with_reducible assumption | omega) hP hD hS (lv_sub hl [0, 2, 3, 4, 5, 6] rfl)
              · have c_9 : 1 ≤ (kd g5).toInt ∧ (kd g5).toInt ≤ 5 := zp_1 c_9
                refine lv_aload_n hx hb dX10_run_63 rfl (lv_at hl 5 rfl) ?_
                refine va_get (D := (dC, dI)) (ci := 8) (v := .ref sh) (C := RX10) (T := TX10) (N := 13) hx hb hts inX10 hown hK hP 0 rfl rfl 0 (Nat.le_of_ble_eq_true rfl) (hts _ mw_309) (fun _ h9 => h9) rfl dX10_run_64 ?_
                refine lv_iload hx hb dX10_run_67 (lv_at hl 1 rfl) ?_
                obtain ⟨hPc, hDc, hFc, hI1⟩ := zi_sub (wc := [_, _, _, _]) hP hD hS hA [15, 16, 17, 18] (by decide +kernel) rfl
                refine zcall (st1 := [.null]) (va_runV (As := [.int (nI g5)]) (rest := []) ⟨hx, hb, hml, hown, hts⟩ (k_Sheet_rowThere_sv l dC dI cI cZ cF H.size sh fa ft FA g5 fe2 lo2 rk2 wd2 tw2 pa2 pb2 lk2 (kd g5) (st g5) gb2 jt2 we2 fm2 (.ref r2) (by first | with_reducible assumption | omega) (by first | with_reducible assumption | omega) (by first | exact hFA2 | exact hFA9 g5 (by first | with_reducible assumption | omega)) (by first | exact hlv.2.1 | omega)) (csV_144 hts rfl rfl ⟨Nat.le_of_ble_eq_true rfl, Nat.le_of_ble_eq_true rfl⟩) (zPV2 (q0 := 0) (ci := 7) hPc hDc hK3 hXN rfl rfl) rfl rfl hl.1 rfl (lv_room (Nat.le_of_ble_eq_true rfl)) dX10_run_69 ⟨Nat.le_of_ble_eq_true rfl, Nat.le_of_ble_eq_true rfl⟩) hS hFc hFc rfl (fun t H locs ht hB hk1 hS => ?_)
                obtain ⟨hP1, hD1⟩ := hB
                rw [ht] at hP1
                replace hP := z0 hP hD hk1 hP1 hI1
                clear hk1 hPc hDc hFc hP1 hD1 ht hI1
                refine lv_ifnullN (tgt := 85) hx hb dX10_run_72 rfl ?_
                obtain ⟨hP, hD⟩ := pl_bk (X := [_, _, _, _, _, _, _, _, _, _, _, _, _, _, _, _, _]) hT_1 hP rfl hc9_1 hD0_1 rfl
                refine lv_iinc (v := nI (g5 + 1)) (lv' := [(5, .int (nI (g5 + 1))), (6, .ref fe2), (4, .int 0), (3, .int 0), (2, .int 0), (0, .ref x), (1, .int lim)]) hx hb dX10_run_85 hl (k := 1) rfl (nI_add g5 1) (Nat.le_of_ble_eq_true rfl) rfl (fun ls hl => ?_)
                refine lv_goto (tgt := 27) hx hb dX10_run_88 rfl ?_
                exact ih_27 (g5 + 1) nt1 TX1 TY1 rt1 nw1 WX1 WY1 rw1 nd1 P1 Q1 rd1 d5 d6 d7 d8 e5 e6 e7 e8 AR1 H locs ls (by first | with_reducible assumption | omega) (by first | with_reducible assumption | omega) hP hD hS (lv_sub hl [0, 2, 3, 4, 5, 6] rfl)
            · skip
              refine ex13 (sh_fc hG.1 hG.2.1 (Nat.le_refl _) (show g5 < ft by omega) hlv.2.2) (fun lo5 lx5 ly5 ln5 LX5 LY5 we5 r5 rx5 ry5 cap5 X5 Y5 hc5 => ?_)
              have hc5 := fc_0 hc5
              have hb5 := hc5.2.2.1
              have hI5 := okA_th hok hlv hbd9
              have hc9_1 : inPl L f [(oc1 (fe g5) (rk g5) (wd g5) (tw g5) (pa g5) (pb g5) (.ref lo5) (.ref (la dn g5)) .null), (oc4 (la dn g5) (kd g5) (st g5) (.ref r5) (gb g5) (it g5) (nI we5)), (oc6 r5 (.ref rx5) (.ref ry5) (nI (nN (mn g5))) (rgK (kd g5).toInt)), (oa rx5 cI cap5 X5), (oa ry5 cI cap5 Y5), (oc6 lo5 (.ref lx5) (.ref ly5) (nI ln5) 0), (oa lx5 cI (cl g5) LX5), (oa ly5 cI (cl g5) LY5)] := ⟨ce_pl hc5.1.1, ce_pl hc5.1.2.1, ce_pl hc5.1.2.2.1.1, ce_pl hc5.1.2.2.1.2.1, ce_pl hc5.1.2.2.1.2.2.1, ce_pl hc5.1.2.2.2.1, ce_pl hc5.1.2.2.2.2.1, ce_pl hc5.1.2.2.2.2.2.1, trivial⟩
              have hD0_1 := hD
              obtain ⟨T_1, hT_1, hP, hD⟩ := pl_oT hP hD hc9_1 (pw8 hc5 (by omega))
              obtain ⟨hP, hD⟩ := zre (W2 := ([_, _, _, _, _, _, _, _, _, _, _, _, _, _, _, _, _, _, _, _, _, _, _, _, _] ++ va_pl T_1 f)) hP hD rfl
              refine lv_aload_n hx hb dX10_run_39 rfl (lv_at hl 4 rfl) ?_
              refine va_get (D := (dC, dI)) (ci := 8) (v := .ref sh) (C := RX10) (T := TX10) (N := 13) hx hb hts inX10 hown hK hP 0 rfl rfl 0 (Nat.le_of_ble_eq_true rfl) (hts _ mw_309) (fun _ h9 => h9) rfl dX10_run_40 ?_
              refine lv_iload hx hb dX10_run_43 (lv_at hl 0 rfl) ?_
              obtain ⟨hPc, hDc, hFc, hI1⟩ := zi_sub (wc := [_, _]) hP hD hS hA [15, 16] rfl rfl
              refine zcall (st1 := [.ref (fe g5)]) (va_runV (As := [.int (nI g5)]) (rest := []) ⟨hx, hb, hml, hown, hts⟩ (k_Sheet_find l dC dI cI cZ cF H.size sh fa ft FA g5 (fe g5) (by first | with_reducible assumption | omega) (by first | with_reducible assumption | omega) (by first | exact hFA2 | exact hFA9 g5 (by first | with_reducible assumption | omega))) (csV_94 hts rfl rfl ⟨Nat.le_of_ble_eq_true rfl, Nat.le_of_ble_eq_true rfl⟩) (zPV2 (q0 := 0) (ci := 7) hPc hDc hK3 hXN rfl rfl) rfl rfl hl.1 rfl (lv_room (Nat.le_of_ble_eq_true rfl)) dX10_run_45 ⟨Nat.le_of_ble_eq_true rfl, Nat.le_of_ble_eq_true rfl⟩) hS hFc hFc rfl (fun t H locs ht hB hk1 hS => ?_)
              obtain ⟨hP1, hD1⟩ := hB
              rw [ht] at hP1
              replace hP := z0 hP hD hk1 hP1 hI1
              clear hk1 hPc hDc hFc hP1 hD1 ht hI1
              refine lv_astore (lv' := [(6, .ref (fe g5)), (5, .int (nI g5)), (4, .int 0), (3, .int 0), (2, .int 0), (0, .ref x), (1, .int lim)]) hx hb dX10_run_48 hl (Nat.le_of_ble_eq_true rfl) rfl (fun ls hl => ?_)
              refine lv_aload hx hb dX10_run_50 (lv_at hl 0 rfl) ?_
              refine lv_ifnull hx hb dX10_run_52 ?_
              refine lv_aload hx hb dX10_run_55 (lv_at hl 0 rfl) ?_
              obtain ⟨hPc, hDc, hFc, hI1⟩ := zi_sub (wc := [_, _]) hP hD hS hA [17, 18] rfl rfl
              refine zcall (st1 := [.int (pI (1 ≤ (kd g5).toInt ∧ (kd g5).toInt ≤ 5))]) (va_runV (As := []) (rest := []) ⟨hx, hb, hml, hown, hts⟩ (k_Feature_bends_r l dC dI cI cZ cF H.size (fe g5) lo5 (rk g5) (wd g5) (tw g5) (pa g5) (pb g5) (la dn g5) (kd g5) (st g5) (gb g5) (it g5) (nI we5) r5 ) (csV_97 hts rfl rfl ⟨Nat.le_of_ble_eq_true rfl, Nat.le_of_ble_eq_true rfl⟩) (zPV2 (q0 := 0) (ci := 1) hPc hDc hK3 hXN rfl rfl) rfl rfl hl.1 rfl (lv_room (Nat.le_of_ble_eq_true rfl)) dX10_run_57 ⟨Nat.le_of_ble_eq_true rfl, Nat.le_of_ble_eq_true rfl⟩) hS hFc hFc rfl (fun t H locs ht hB hk1 hS => ?_)
              obtain ⟨hP1, hD1⟩ := hB
              rw [ht] at hP1
              replace hP := z0 hP hD hk1 hP1 hI1
              clear hk1 hPc hDc hFc hP1 hD1 ht hI1
              refine lv_if_eq (tgt := 85) hx hb dX10_run_60 rfl (fun c_10 => ?_) (fun c_10 => ?_)
              · have c_10 : ¬ (1 ≤ (kd g5).toInt ∧ (kd g5).toInt ≤ 5) := zp_0 c_10
                obtain ⟨hP, hD⟩ := pl_bk (X := [_, _, _, _, _, _, _, _, _, _, _, _, _, _, _, _, _]) hT_1 hP rfl hc9_1 hD0_1 rfl
                refine lv_iinc (v := nI (g5 + 1)) (lv' := [(5, .int (nI (g5 + 1))), (6, .ref (fe g5)), (4, .int 0), (3, .int 0), (2, .int 0), (0, .ref x), (1, .int lim)]) hx hb dX10_run_85 hl (k := 1) rfl (nI_add g5 1) (Nat.le_of_ble_eq_true rfl) rfl (fun ls hl => ?_)
                refine lv_goto (tgt := 27) hx hb dX10_run_88 rfl ?_
                exact ih_27 (g5 + 1) nt1 TX1 TY1 rt1 nw1 WX1 WY1 rw1 nd1 P1 Q1 rd1 d5 d6 d7 d8 e5 e6 e7 e8 AR1 H locs ls (by first | with_reducible assumption | omega) (by first | with_reducible assumption | omega) hP hD hS (lv_sub hl [0, 2, 3, 4, 5, 6] rfl)
              · have c_10 : 1 ≤ (kd g5).toInt ∧ (kd g5).toInt ≤ 5 := zp_1 c_10
                refine lv_aload_n hx hb dX10_run_63 rfl (lv_at hl 5 rfl) ?_
                refine va_get (D := (dC, dI)) (ci := 8) (v := .ref sh) (C := RX10) (T := TX10) (N := 13) hx hb hts inX10 hown hK hP 0 rfl rfl 0 (Nat.le_of_ble_eq_true rfl) (hts _ mw_309) (fun _ h9 => h9) rfl dX10_run_64 ?_
                refine lv_iload hx hb dX10_run_67 (lv_at hl 1 rfl) ?_
                obtain ⟨hPc, hDc, hFc, hI1⟩ := zi_sub (wc := [_, _, _, _]) hP hD hS hA [15, 16, 17, 18] (by decide +kernel) rfl
                refine zcall (st1 := [.ref r5]) (va_runV (As := [.int (nI g5)]) (rest := []) ⟨hx, hb, hml, hown, hts⟩ (k_Sheet_rowThere_yv l dC dI cI cZ cF H.size sh fa ft FA g5 (fe g5) lo5 (rk g5) (wd g5) (tw g5) (pa g5) (pb g5) (la dn g5) (kd g5) (st g5) (gb g5) (it g5) (nI we5) r5 (.null) (by first | with_reducible assumption | omega) (by first | with_reducible assumption | omega) (by first | exact hFA2 | exact hFA9 g5 (by first | with_reducible assumption | omega)) (by first | exact hlv.2.1 | omega)) (csV_144 hts rfl rfl ⟨Nat.le_of_ble_eq_true rfl, Nat.le_of_ble_eq_true rfl⟩) (zPV2 (q0 := 0) (ci := 7) hPc hDc hK3 hXN rfl rfl) rfl rfl hl.1 rfl (lv_room (Nat.le_of_ble_eq_true rfl)) dX10_run_69 ⟨Nat.le_of_ble_eq_true rfl, Nat.le_of_ble_eq_true rfl⟩) hS hFc hFc rfl (fun t H locs ht hB hk1 hS => ?_)
                obtain ⟨hP1, hD1⟩ := hB
                rw [ht] at hP1
                replace hP := z0 hP hD hk1 hP1 hI1
                clear hk1 hPc hDc hFc hP1 hD1 ht hI1
                refine lv_ifnull hx hb dX10_run_72 ?_
                refine lv_iload_n hx hb dX10_run_75 rfl (lv_at hl 4 rfl) ?_
                refine lv_aload_n hx hb dX10_run_76 rfl (lv_at hl 5 rfl) ?_
                refine lv_aload hx hb dX10_run_77 (lv_at hl 0 rfl) ?_
                refine lv_iload_n hx hb dX10_run_79 rfl (lv_at hl 6 rfl) ?_
                obtain ⟨hPc, hDc, hFc⟩ := zo_part (cx := [_, _, _, _, _, _, _, _, _, _, _, _, _, _, _, _, _, _, _, _, _]) hP hD hS hA [0, 2, 3, 4, 5, 6, 7, 8, 9, 10, 11, 12, 13, 14, 15, 16, 17, 18, 19, 20, 21] (by decide +kernel) rfl
                refine zcall (st1 := [.int 0, .int 0]) (va_runV (As := [.ref (fe g5), .int lim]) (rest := [.int 0]) ⟨hx, hb, hml, hown, hts⟩ (k_thin_z l dC dI cI cZ cF H.size x ro bq bp dq dp lv sl (nI dn) sd ul su lw dr tg wy br bo aa tx ty nt1 TX1 TY1 rt1 wx wz nw1 WX1 WY1 rw1 dx dy nd1 cd P1 Q1 rd1 d5 d6 d7 d8 e5 e6 e7 e8 AR1 sh fa ft FA (fe g5) lo5 (rk g5) (wd g5) (tw g5) (pa g5) (pb g5) (la dn g5) (gb g5) (it g5) r5 rx5 ry5 (nN (mn g5)) cap5 X5 Y5 g5 we5 LM 0 (nN (mn g5)) T_1 f kd st tn mn cx cy mn cx cy lim (.null) (by first | with_reducible assumption | omega) (by first | with_reducible assumption | omega) (hFA9 g5 (by first | with_reducible assumption | omega)) (by rw [← hT_1]; exact fc_vw hc5 (by first | with_reducible assumption | omega) (by first | with_reducible assumption | omega) hG.1 hG.2.1 hFA9 (Nat.le_refl _)) (hI5) (hno g5 hlv hbd9) (hL) (hc5.2.2.2.2.1) (by first | with_reducible assumption | omega) (by first | with_reducible assumption | omega) (rfl)) (csV_108 hts rfl rfl ⟨Nat.le_of_ble_eq_true rfl, Nat.le_of_ble_eq_true rfl⟩) (zPV2 (q0 := 0) (ci := 8) hPc hDc hK3 hXN rfl rfl) rfl rfl hl.1 rfl (lv_room (Nat.le_of_ble_eq_true rfl)) dX10_run_80 ⟨Nat.le_of_ble_eq_true rfl, Nat.le_of_ble_eq_true rfl⟩) hS hFc hFc rfl (fun t H locs ht hB hk1 hS => ?_)
                refine ex21 hB (fun nt6 TX6 TY6 rt6 nw6 WX6 WY6 rw6 nd6 P6 Q6 rd6 g06 g16 g26 g36 g46 g56 g66 g76 AR6 hB0 => ?_)
                clear hB
                obtain ⟨hP1, hD1⟩ := hB0
                rw [ht] at hP1
                obtain ⟨hP, hD⟩ := znP (W2 := [_, _, _, (oc6 tg (.ref tx) (.ref ty) (nI nt6) rt6), (oa tx cI 3 TX6), (oa ty cI 3 TY6), (oc6 wy (.ref wx) (.ref wz) (nI nw6) rw6), (oa wx cI 2 WX6), (oa wz cI 2 WY6), (oc6 dr (.ref dx) (.ref dy) (nI nd6) rd6), (oa dx cI cd P6), (oa dy cI cd Q6), (oc0 br g06 g16 g26 g36), (oc0 bo g46 g56 g66 g76), (oa aa cI 40 AR6), _, _, _, _, _, _, _, _, _, _]) hP hD hk1 hFc hP1 hD1 zl_66 zl_67 zl_67 zl_66 (by decide +kernel) rfl rfl rfl rfl rfl
                clear hk1 hPc hDc hFc hP1 hD1 ht
                refine lv_iadd hx hb dX10_run_83 ?_
                refine zz_i (v := 0) (by decide) ?_
                refine lv_istore_n (lv' := [(2, .int 0), (6, .ref (fe g5)), (5, .int (nI g5)), (4, .int 0), (3, .int 0), (0, .ref x), (1, .int lim)]) hx hb dX10_run_84 rfl hl (Nat.le_of_ble_eq_true rfl) rfl (fun ls hl => ?_)
                obtain ⟨hP, hD⟩ := pl_bk (X := [_, _, _, _, _, _, _, _, _, _, _, _, _, _, _, _, _]) hT_1 hP rfl hc9_1 hD0_1 rfl
                refine lv_iinc (v := nI (g5 + 1)) (lv' := [(5, .int (nI (g5 + 1))), (2, .int 0), (6, .ref (fe g5)), (4, .int 0), (3, .int 0), (0, .ref x), (1, .int lim)]) hx hb dX10_run_85 hl (k := 2) rfl (nI_add g5 1) (Nat.le_of_ble_eq_true rfl) rfl (fun ls hl => ?_)
                refine lv_goto (tgt := 27) hx hb dX10_run_88 rfl ?_
                exact ih_27 (g5 + 1) nt6 TX6 TY6 rt6 nw6 WX6 WY6 rw6 nd6 P6 Q6 rd6 g06 g16 g26 g36 g46 g56 g66 g76 AR6 H locs ls (by first | with_reducible assumption | omega) (by first | with_reducible assumption | omega) hP hD hS (lv_sub hl [0, 3, 4, 1, 5, 6] rfl)
      exact hl_27 _ 0 nt TX TY rt nw WX WY rw nd P Q rd b1 b2 b3 b4 b5 b6 b7 b8 AR s.heap [] ls (Nat.lt_succ_self _) (by first | with_reducible assumption | omega) hP hD hS (lv_sub hl [0, 1, 2, 3, 4, 5] rfl)
  · have c_1 : lim.toInt < 0 := zc_nle rfl rfl c_1
    exfalso; omega
end
section
set_option maxHeartbeats 4000000 in
set_option maxRecDepth 100000 in
theorem k_run_y (l : Launch) (dC : Nat → ClassId) (dI : Nat → Nat → Nat) (cI cZ cF : ClassId) (sz : Nat) (cO : ClassId) (e0 : Nat) (mi : Nat) (x : Nat) (sh : Nat) (lw : Nat) (ro : Nat) (bq : Nat) (bp : Nat) (dq : Nat) (dp : Nat) (lv : Nat) (sl : Nat) (sd : Int32) (ul : Int32) (su : Int32) (ea : Nat) (mc9 : Int32) (fa : Nat) (FA : Nat → Option Nat) (bs : Nat) (dn : Nat) (T : Nat) (ft : Nat) (FT : Nat → Nat) (V : Nat → Nat → Nat → Int32) (VX : Nat → Nat → Int32) (VY : Nat → Nat → Int32) (tn : Nat → Int32) (rk : Nat → Int32) (wd : Nat → Int32) (tw : Nat → Int32) (pa : Nat → Int32) (pb : Nat → Int32) (wh : Nat → Int32) (of9 : Nat → Int32) (we : Nat → Int32) (kd : Nat → Int32) (st : Nat → Int32) (gb : Nat → Int32) (it : Nat → Int32) (mn : Nat → Int32) (cx : Nat → Int32) (cy : Nat → Int32) (L : List Nat) (f : Nat → va_E) (dr : Nat) (tg : Nat) (wy : Nat) (br : Nat) (bo : Nat) (aa : Nat) (tx : Nat) (ty : Nat) (nt : Nat) (TX : Nat → Int32) (TY : Nat → Int32) (rt : Int32) (wx : Nat) (wz : Nat) (nw : Nat) (WX : Nat → Int32) (WY : Nat → Int32) (rw : Int32) (dx : Nat) (dy : Nat) (nd : Nat) (cd : Nat) (P : Nat → Int32) (Q : Nat → Int32) (rd : Int32) (b1 : Int32) (b2 : Int32) (b3 : Int32) (b4 : Int32) (b5 : Int32) (b6 : Int32) (b7 : Int32) (b8 : Int32) (AR : Nat → Int32) (LM : Nat) (TT : Nat) (P9 : Nat) (mn1 : Nat → Int32) (cx1 : Nat → Int32) (cy1 : Nat → Int32) (lim : Int32) (hB : shB cI cO L f e0 FA ea bs dn T ft FT V VX VY tn rk wd tw pa pb wh of9 we kd st gb it mn cx cy) (hd5 : dn + 1 ≤ 512) (hok : okA ft st tn kd mn cx cy) (hL : lim.toInt = ((LM : Nat) : Int)) (hcd : 40 ≤ cd ∧ cd ≤ 1000) (hkr : ∀ q, q < ft → 0 ≤ (kd q).toInt ∧ (kd q).toInt ≤ 6) (hrun : rnA ft st tn kd LM P9 mn cx cy TT mn1 cx1 cy1) (hT1 : 1 ≤ TT ∧ TT ≤ 8000) : zML l yX10_run cX10_run 7 (some .int) ({ frames := 8, cells := 5 * ft + 2, slots := smd (fun _ => 1) (fun q => nN (mn q)) ft + 4 * ft + 805, locals := 182 } : Room) [.ref x, .int lim] (dC, dI) (zTyO cI cZ cF cO) e0 mi ([(oc8 x (.ref sh) (.ref lw) (.ref ro) (.ref bq) (.ref bp) (.ref dq) (.ref dp) (.ref lv) (.ref sl) (nI dn) sd ul su), (oc10 sl mc9 (.ref ea) (nI T)), (oc3 lw (.ref dr) (.ref tg) (.ref wy) (.ref br) (.ref bo) (.ref aa)), (oc6 tg (.ref tx) (.ref ty) (nI nt) rt), (oa tx cI 3 TX), (oa ty cI 3 TY), (oc6 wy (.ref wx) (.ref wz) (nI nw) rw), (oa wx cI 2 WX), (oa wz cI 2 WY), (oc6 dr (.ref dx) (.ref dy) (nI nd) rd), (oa dx cI cd P), (oa dy cI cd Q), (oc0 br b1 b2 b3 b4), (oc0 bo b5 b6 b7 b8), (oa aa cI 40 AR), (oc7 sh (.ref fa) (nI ft)), (oq fa cF 200 FA)] ++ va_pl L f) sz (some (.int (nI TT))) (fun A t => ∃ (mc1 : Int32), ∃ (L1 : List Nat), ∃ (f1 : Nat → va_E), ∃ (ea1 : Nat), ∃ (gh9 : Nat → Nat → Int32), ∃ (nt1 : Nat), ∃ (TX1 : Nat → Int32), ∃ (TY1 : Nat → Int32), ∃ (rt1 : Int32), ∃ (nw1 : Nat), ∃ (WX1 : Nat → Int32), ∃ (WY1 : Nat → Int32), ∃ (rw1 : Int32), ∃ (nd1 : Nat), ∃ (P1 : Nat → Int32), ∃ (Q1 : Nat → Int32), ∃ (rd1 : Int32), ∃ (d5 : Int32), ∃ (d6 : Int32), ∃ (d7 : Int32), ∃ (d8 : Int32), ∃ (e5 : Int32), ∃ (e6 : Int32), ∃ (e7 : Int32), ∃ (e8 : Int32), ∃ (AR1 : Nat → Int32), (shB cI cO L1 f1 e0 FA ea1 bs (dn + 1) (dn + 1) ft (upN FT (dn + 1) ft) (upN V (dn + 1) (vC gh9 kd st gb it mn1)) (upN VX (dn + 1) cx1) (upN VY (dn + 1) cy1) tn rk wd tw pa pb (upd wh (dn + 1) (10 : Int32)) (upd of9 (dn + 1) (-1 : Int32)) (upd we (dn + 1) (nI TT)) kd st gb it mn1 cx1 cy1) ∧ (gR (V dn) gh9 ft st tn kd mn cx cy mn1 cx1 cy1) ∧ zPD (dC, dI) classes A ([(oc8 x (.ref sh) (.ref lw) (.ref ro) (.ref bq) (.ref bp) (.ref dq) (.ref dp) (.ref lv) (.ref sl) (nI (dn + 1)) sd ul 0), (oc10 sl mc1 (.ref ea1) (nI (dn + 1))), (oc3 lw (.ref dr) (.ref tg) (.ref wy) (.ref br) (.ref bo) (.ref aa)), (oc6 tg (.ref tx) (.ref ty) (nI nt1) rt1), (oa tx cI 3 TX1), (oa ty cI 3 TY1), (oc6 wy (.ref wx) (.ref wz) (nI nw1) rw1), (oa wx cI 2 WX1), (oa wz cI 2 WY1), (oc6 dr (.ref dx) (.ref dy) (nI nd1) rd1), (oa dx cI cd P1), (oa dy cI cd Q1), (oc0 br d5 d6 d7 d8), (oc0 bo e5 e6 e7 e8), (oa aa cI 40 AR1), (oc7 sh (.ref fa) (nI ft)), (oq fa cF 200 FA)] ++ va_pl L1 f1) t.heap) (5 * ft + 2) (smd (fun _ => 1) (fun q => nN (mn q)) ft + 4 * ft + 805) := by
  refine zInL (own := "ScaleShop") (loc := [(0, .ref x), (1, .int lim)]) rfl rfl rfl rfl (fun p e s m below meth c hx hb hr hts hown hlocks hml hnm9 A hA hS hP hD hK hXL hXN hK3 Q9 hQ9 ls hl => ?_)
  obtain ⟨own, fe, cl, la, sp, SA, hG9, hH9, hft9, hO9⟩ := hB
  obtain ⟨hG, hM, hdT, hT5, hO⟩ := M_0 hG9 hH9 hft9 hO9
  have h200 : ft ≤ 200 := hG.2.2.2.2.2.1.2.2.2.2.2
  have hFA9 := hG.2.2.2.2.2.2
  have hcm0 : ∀ k, cmd (fun _ => 0) k = 0 := (by intro k; induction k with | zero => rfl | succ k ih => exact ih)
  have hsm0 : ∀ k, smd (fun _ => 0) (fun q => nN (mn q)) k = 0 := (by intro k; induction k with | zero => rfl | succ k ih => exact ih)
  have hc00 := hcm0 ft
  have hs00 := hsm0 ft
  refine lv_iload_n hx hb dX10_run_0 rfl (lv_at hl 1 rfl) ?_
  refine lv_if_ge (tgt := 10) hx hb dX10_run_1 rfl (fun c_1 => ?_) (fun c_1 => ?_)
  · have c_1 : 0 ≤ lim.toInt := zc_le rfl rfl c_1
    refine lv_iconst (v := 0) hx hb dX10_run_10 rfl ?_
    refine lv_istore_n (lv' := [(2, .int 0), (0, .ref x), (1, .int lim)]) hx hb dX10_run_11 rfl hl (Nat.le_of_ble_eq_true rfl) rfl (fun ls hl => ?_)
    refine lv_iconst (v := 0) hx hb dX10_run_12 rfl ?_
    refine lv_istore_n (lv' := [(3, .int 0), (2, .int 0), (0, .ref x), (1, .int lim)]) hx hb dX10_run_13 rfl hl (Nat.le_of_ble_eq_true rfl) rfl (fun ls hl => ?_)
    have hl_14 : ∀ (n9 : Nat) (ps5 : Nat) (tc5 : Nat) (pr5 : Nat) (L5 : List Nat) (f5 : Nat → va_E) (own5 : Nat → Nat) (nw5 : Nat → Nat) (md5 : Nat → Nat) (fm5 : Nat → Value) (gh5 : Nat → Nat → Int32) (mnj : Nat → Int32) (cxj : Nat → Int32) (cyj : Nat → Int32) (nt1 : Nat) (TX1 : Nat → Int32) (TY1 : Nat → Int32) (rt1 : Int32) (nw1 : Nat) (WX1 : Nat → Int32) (WY1 : Nat → Int32) (rw1 : Int32) (nd1 : Nat) (P1 : Nat → Int32) (Q1 : Nat → Int32) (rd1 : Int32) (d5 : Int32) (d6 : Int32) (d7 : Int32) (d8 : Int32) (e5 : Int32) (e6 : Int32) (e7 : Int32) (e8 : Int32) (AR1 : Nat → Int32) (H : Heap) (locs : List Loc) (ls : Array Slot), TT - tc5 < n9 → (ps5 ≤ tc5) → ((shG cI cO L5 f5 e0 FA ea T own5 fe cl la nw5 md5 sp fm5 SA bs dn dn ft ft FT V VX VY tn rk wd tw pa pb wh of9 we kd st gb it mnj cxj cyj) ∧ (mdA dn ft FT la nw5 md5 fm5 V kd st gb it) ∧ (∀ q, md5 q ≤ 1) ∧ okA ft st tn kd mnj cxj cyj ∧ (∀ q, md5 q = 0 → mnj q = mn q) ∧ (loG cI L5 f5 own5 fe nw5 md5 la bs dn dn ft ft FT V gh5) ∧ gR (V dn) gh5 ft st tn kd mn cx cy mnj cxj cyj) → (rnM ft st tn kd LM TT mn1 cx1 cy1 1 pr5 tc5 mnj cxj cyj) → va_P (dC, dI) classes ([(oc8 x (.ref sh) (.ref lw) (.ref ro) (.ref bq) (.ref bp) (.ref dq) (.ref dp) (.ref lv) (.ref sl) (nI dn) sd ul su), (oc10 sl mc9 (.ref ea) (nI T)), (oc3 lw (.ref dr) (.ref tg) (.ref wy) (.ref br) (.ref bo) (.ref aa)), (oc6 tg (.ref tx) (.ref ty) (nI nt1) rt1), (oa tx cI 3 TX1), (oa ty cI 3 TY1), (oc6 wy (.ref wx) (.ref wz) (nI nw1) rw1), (oa wx cI 2 WX1), (oa wz cI 2 WY1), (oc6 dr (.ref dx) (.ref dy) (nI nd1) rd1), (oa dx cI cd P1), (oa dy cI cd Q1), (oc0 br d5 d6 d7 d8), (oc0 bo e5 e6 e7 e8), (oa aa cI 40 AR1), (oc7 sh (.ref fa) (nI ft)), (oq fa cF 200 FA)] ++ va_pl L5 f5) H → va_D A ([(oc8 x (.ref sh) (.ref lw) (.ref ro) (.ref bq) (.ref bp) (.ref dq) (.ref dp) (.ref lv) (.ref sl) (nI dn) sd ul su), (oc10 sl mc9 (.ref ea) (nI T)), (oc3 lw (.ref dr) (.ref tg) (.ref wy) (.ref br) (.ref bo) (.ref aa)), (oc6 tg (.ref tx) (.ref ty) (nI nt1) rt1), (oa tx cI 3 TX1), (oa ty cI 3 TY1), (oc6 wy (.ref wx) (.ref wz) (nI nw1) rw1), (oa wx cI 2 WX1), (oa wz cI 2 WY1), (oc6 dr (.ref dx) (.ref dy) (nI nd1) rd1), (oa dx cI cd P1), (oa dy cI cd Q1), (oc0 br d5 d6 d7 d8), (oc0 bo e5 e6 e7 e8), (oa aa cI 40 AR1), (oc7 sh (.ref fa) (nI ft)), (oq fa cF 200 FA)] ++ va_pl L5 f5) → va_S A s.heap H locs → lv_has ls 7 [(3, .int (nI ps5)), (2, .int (nI tc5)), (0, .ref x), (1, .int lim)] → W p l e ({ frames := 8, cells := 5 * ft + 2, slots := smd (fun _ => 1) (fun q => nN (mn q)) ft + 4 * ft + 805, locals := 182 } : Room) s m ([.ref x, .int lim] : List Value).toArray below meth c H locs (4 * cmd md5 ft) (smd md5 (fun q => nN (mn q)) ft) Q9 (F0 m 14 ls []) := by
      intro n9
      induction n9 with
      | zero => intro ps5 tc5 pr5 L5 f5 own5 nw5 md5 fm5 gh5 mnj cxj cyj nt1 TX1 TY1 rt1 nw1 WX1 WY1 rw1 nd1 P1 Q1 rd1 d5 d6 d7 d8 e5 e6 e7 e8 AR1 H locs ls hm; exact absurd hm (Nat.not_lt_zero _)
      | succ n9 ih_14 =>
        intro ps5 tc5 pr5 L5 f5 own5 nw5 md5 fm5 gh5 mnj cxj cyj nt1 TX1 TY1 rt1 nw1 WX1 WY1 rw1 nd1 P1 Q1 rd1 d5 d6 d7 d8 e5 e6 e7 e8 AR1 H locs ls hm hps hJ5 hrm5 hP hD hS hl
        have hle5 := rnM_le hrm5
        have hcl5 := cmd_le md5 ft
        have hsl5 := smd_le md5 (fun q => nN (mn q)) ft
        refine lv_iload_n hx hb dX10_run_14 rfl (lv_at hl 0 rfl) ?_
        refine lv_sipush (v := 8001) hx hb dX10_run_15 rfl ?_
        have b9_3 : zlt (ps5) := show ps5 < 2147483648 by omega
        refine lv_icmp_ge (tgt := 106) hx hb dX10_run_18 rfl (fun c_2 => ?_) (fun c_2 => ?_)
        · have c_2 : 8001 ≤ ((ps5 : Nat) : Int) := zc_le rfl (nI_toInt b9_3) c_2
          exfalso; omega
        · have c_2 : ((ps5 : Nat) : Int) < 8001 := zc_nle rfl (nI_toInt b9_3) c_2
          obtain ⟨p5, tp5, mn2, cx2, cy2, hpp5, hrP0, hz05, hz15, htp5⟩ := rnM_s hrm5 (by decide)
          refine lv_iload_n hx hb dX10_run_21 rfl (lv_at hl 1 rfl) ?_
          refine lv_istore (lv' := [(4, .int (nI tc5)), (3, .int (nI ps5)), (2, .int (nI tc5)), (0, .ref x), (1, .int lim)]) hx hb dX10_run_22 hl (Nat.le_of_ble_eq_true rfl) rfl (fun ls hl => ?_)
          refine lv_iconst (v := 0) hx hb dX10_run_24 rfl ?_
          refine lv_istore (lv' := [(5, .int 0), (4, .int (nI tc5)), (3, .int (nI ps5)), (2, .int (nI tc5)), (0, .ref x), (1, .int lim)]) hx hb dX10_run_25 hl (Nat.le_of_ble_eq_true rfl) rfl (fun ls hl => ?_)
          have hl_27 : ∀ (n9 : Nat) (g5 : Nat) (tc6 : Nat) (tr6 : Nat) (L6 : List Nat) (f6 : Nat → va_E) (own6 : Nat → Nat) (nw6 : Nat → Nat) (md6 : Nat → Nat) (fm6 : Nat → Value) (gh6 : Nat → Nat → Int32) (mnk : Nat → Int32) (cxk : Nat → Int32) (cyk : Nat → Int32) (nt19 : Nat) (TX19 : Nat → Int32) (TY19 : Nat → Int32) (rt19 : Int32) (nw19 : Nat) (WX19 : Nat → Int32) (WY19 : Nat → Int32) (rw19 : Int32) (nd19 : Nat) (P19 : Nat → Int32) (Q19 : Nat → Int32) (rd19 : Int32) (d59 : Int32) (d69 : Int32) (d79 : Int32) (d89 : Int32) (e59 : Int32) (e69 : Int32) (e79 : Int32) (e89 : Int32) (AR19 : Nat → Int32) (H : Heap) (locs : List Loc) (ls : Array Slot), ft - g5 < n9 → (g5 ≤ ft) → ((shG cI cO L6 f6 e0 FA ea T own6 fe cl la nw6 md6 sp fm6 SA bs dn dn ft ft FT V VX VY tn rk wd tw pa pb wh of9 we kd st gb it mnk cxk cyk) ∧ (mdA dn ft FT la nw6 md6 fm6 V kd st gb it) ∧ (∀ q, md6 q ≤ 1) ∧ okA ft st tn kd mnk cxk cyk ∧ (∀ q, md6 q = 0 → mnk q = mn q) ∧ (loG cI L6 f6 own6 fe nw6 md6 la bs dn dn ft ft FT V gh6) ∧ gR (V dn) gh6 ft st tn kd mn cx cy mnk cxk cyk) → (rnP ft st tn kd LM (ft - g5) mnk cxk cyk tr6 mn2 cx2 cy2) → (tc6 + tr6 = tc5 + tp5) → va_P (dC, dI) classes ([(oc8 x (.ref sh) (.ref lw) (.ref ro) (.ref bq) (.ref bp) (.ref dq) (.ref dp) (.ref lv) (.ref sl) (nI dn) sd ul su), (oc10 sl mc9 (.ref ea) (nI T)), (oc3 lw (.ref dr) (.ref tg) (.ref wy) (.ref br) (.ref bo) (.ref aa)), (oc6 tg (.ref tx) (.ref ty) (nI nt19) rt19), (oa tx cI 3 TX19), (oa ty cI 3 TY19), (oc6 wy (.ref wx) (.ref wz) (nI nw19) rw19), (oa wx cI 2 WX19), (oa wz cI 2 WY19), (oc6 dr (.ref dx) (.ref dy) (nI nd19) rd19), (oa dx cI cd P19), (oa dy cI cd Q19), (oc0 br d59 d69 d79 d89), (oc0 bo e59 e69 e79 e89), (oa aa cI 40 AR19), (oc7 sh (.ref fa) (nI ft)), (oq fa cF 200 FA)] ++ va_pl L6 f6) H → va_D A ([(oc8 x (.ref sh) (.ref lw) (.ref ro) (.ref bq) (.ref bp) (.ref dq) (.ref dp) (.ref lv) (.ref sl) (nI dn) sd ul su), (oc10 sl mc9 (.ref ea) (nI T)), (oc3 lw (.ref dr) (.ref tg) (.ref wy) (.ref br) (.ref bo) (.ref aa)), (oc6 tg (.ref tx) (.ref ty) (nI nt19) rt19), (oa tx cI 3 TX19), (oa ty cI 3 TY19), (oc6 wy (.ref wx) (.ref wz) (nI nw19) rw19), (oa wx cI 2 WX19), (oa wz cI 2 WY19), (oc6 dr (.ref dx) (.ref dy) (nI nd19) rd19), (oa dx cI cd P19), (oa dy cI cd Q19), (oc0 br d59 d69 d79 d89), (oc0 bo e59 e69 e79 e89), (oa aa cI 40 AR19), (oc7 sh (.ref fa) (nI ft)), (oq fa cF 200 FA)] ++ va_pl L6 f6) → va_S A s.heap H locs → lv_has ls 7 [(5, .int (nI g5)), (4, .int (nI tc5)), (3, .int (nI ps5)), (2, .int (nI tc6)), (0, .ref x), (1, .int lim)] → W p l e ({ frames := 8, cells := 5 * ft + 2, slots := smd (fun _ => 1) (fun q => nN (mn q)) ft + 4 * ft + 805, locals := 182 } : Room) s m ([.ref x, .int lim] : List Value).toArray below meth c H locs (4 * cmd md6 ft) (smd md6 (fun q => nN (mn q)) ft) Q9 (F0 m 27 ls []) := by
            intro n9
            induction n9 with
            | zero => intro g5 tc6 tr6 L6 f6 own6 nw6 md6 fm6 gh6 mnk cxk cyk nt19 TX19 TY19 rt19 nw19 WX19 WY19 rw19 nd19 P19 Q19 rd19 d59 d69 d79 d89 e59 e69 e79 e89 AR19 H locs ls hm; exact absurd hm (Nat.not_lt_zero _)
            | succ n9 ih_27 =>
              intro g5 tc6 tr6 L6 f6 own6 nw6 md6 fm6 gh6 mnk cxk cyk nt19 TX19 TY19 rt19 nw19 WX19 WY19 rw19 nd19 P19 Q19 rd19 d59 d69 d79 d89 e59 e69 e79 e89 AR19 H locs ls hm hg5 hJ6 hrp6 htc6 hP hD hS hl
              have hcl6 := cmd_le md6 ft
              have hsl6 := smd_le md6 (fun q => nN (mn q)) ft
              refine lv_iload hx hb dX10_run_27 (lv_at hl 0 rfl) ?_
              refine lv_aload_n hx hb dX10_run_29 rfl (lv_at hl 4 rfl) ?_
              refine va_get (D := (dC, dI)) (ci := 8) (v := .ref sh) (C := RX10) (T := TX10) (N := 13) hx hb hts inX10 hown hK hP 0 rfl rfl 0 (Nat.le_of_ble_eq_true rfl) (hts _ mw_309) (fun _ h9 => h9) rfl dX10_run_30 ?_
              refine va_get (D := (dC, dI)) (ci := 7) (v := .int (nI ft)) (C := RX8) (T := TX8) (N := 2) hx hb hts inX8 hown hK hP 15 rfl rfl 1 (Nat.le_of_ble_eq_true rfl) (hts _ mw_140) (fun _ h9 => h9) rfl dX10_run_33 ?_
              have b9_5 : zlt (g5) := show g5 < 2147483648 by omega
              have b9_6 : zlt (ft) := show ft < 2147483648 by omega
              refine lv_icmp_ge (tgt := 91) hx hb dX10_run_36 rfl (fun c_4 => ?_) (fun c_4 => ?_)
              · have c_4 : ((ft : Nat) : Int) ≤ ((g5 : Nat) : Int) := zc_le (nI_toInt b9_6) (nI_toInt b9_5) c_4
                obtain ⟨ez, e2, e3, e4⟩ := rnP_z (show ft - g5 = 0 by omega) hrp6
                refine lv_iload_n hx hb dX10_run_91 rfl (lv_at hl 3 rfl) ?_
                refine lv_iload hx hb dX10_run_92 (lv_at hl 1 rfl) ?_
                have b9_8 : zlt (tc6) := show tc6 < 2147483648 by omega
                have b9_9 : zlt (tc5) := show tc5 < 2147483648 by omega
                refine lv_icmp_ne (tgt := 100) hx hb dX10_run_94 rfl (fun c_7 => ?_) (fun c_7 => ?_)
                · have c_7 : ¬ ((tc6 : Nat) : Int) = ((tc5 : Nat) : Int) := zc_ne (nI_toInt b9_8) (nI_toInt b9_9) c_7
                  have hrm6 : rnM ft st tn kd LM TT mn1 cx1 cy1 1 p5 tc6 mnk cxk cyk := (by have h9 := hz15 (by omega); rw [e2, e3, e4] at h9; rw [show tc6 = tc5 + tp5 by omega]; exact h9)
                  refine lv_iinc (v := nI (ps5 + 1)) (lv' := [(3, .int (nI (ps5 + 1))), (5, .int (nI g5)), (4, .int (nI tc5)), (2, .int (nI tc6)), (0, .ref x), (1, .int lim)]) hx hb dX10_run_100 hl (k := 2) rfl (nI_add ps5 1) (Nat.le_of_ble_eq_true rfl) rfl (fun ls hl => ?_)
                  refine lv_goto (tgt := 14) hx hb dX10_run_103 rfl ?_
                  refine W.widen (k := 4 * cmd md6 ft) (n := smd md6 (fun q => nN (mn q)) ft) (by omega) (by omega) ?_
                  exact ih_14 (ps5 + 1) tc6 p5 L6 f6 own6 nw6 md6 fm6 gh6 mnk cxk cyk nt19 TX19 TY19 rt19 nw19 WX19 WY19 rw19 nd19 P19 Q19 rd19 d59 d69 d79 d89 e59 e69 e79 e89 AR19 H locs ls (by have := rnM_le hrm6; omega) (by first | with_reducible assumption | omega) (hJ6) (hrm6) hP hD hS (lv_sub hl [0, 3, 4, 5] rfl)
                · have c_7 : ((tc6 : Nat) : Int) = ((tc5 : Nat) : Int) := zc_eq (nI_toInt b9_8) (nI_toInt b9_9) c_7
                  refine lv_goto (tgt := 106) hx hb dX10_run_97 rfl ?_
                  obtain ⟨z1, z2, z3, z4⟩ := rnM_z (hz05 (by omega)) (by decide)
                  rw [e2] at z1
                  rw [e3] at z2
                  rw [e4] at z3
                  have hJf := hJ6
                  rw [← z1, ← z2, ← z3] at hJf
                  obtain ⟨hG1, hM1, hmd1, hok1, hmq1, hO1, hgr1⟩ := hJf
                  have hcl6 := cmd_le md6 ft
                  have hsl6 := smd_le md6 (fun q => nN (mn q)) ft
                  refine lv_iload_n hx hb dX10_run_106 rfl (lv_at hl 3 rfl) ?_
                  refine lv_if_ne (tgt := 117) hx hb dX10_run_107 rfl (fun c_10 => ?_) (fun c_10 => ?_)
                  · have c_10 : ¬ ((tc6 : Nat) : Int) = 0 := zc_ne (nI_toInt b9_8) rfl c_10
                    refine lv_aload_n hx hb dX10_run_117 rfl (lv_at hl 4 rfl) ?_
                    refine lv_bipush (v := 10) hx hb dX10_run_118 rfl ?_
                    refine lv_iconst (v := (-1)) hx hb dX10_run_120 rfl ?_
                    refine lv_iload_n hx hb dX10_run_121 rfl (lv_at hl 3 rfl) ?_
                    refine zz_i (v := nI TT) (zn_eq (by omega)) ?_
                    refine lv_null hx hb dX10_run_122 ?_
                    obtain ⟨hPc, hDc, hFc⟩ := zo_part (cx := [_, _, _, _]) hP hD hS hA [0, 1, 15, 16] (by decide +kernel) rfl
                    refine zcall (st1 := [.int 1]) (va_runV (As := [.int 10, .int (-1), .int (nI TT), .null]) (rest := []) ⟨hx, hb, hml, hown, hts⟩ (k_book_n l dC dI cI cZ cF H.size cO e0 mi x sh lw ro bq bp dq dp lv sl sd ul su sl ea T mc9 fa FA own6 fe cl la nw6 md6 sp fm6 SA bs dn ft FT V VX VY gh6 tn rk wd tw pa pb wh of9 we kd st gb it mn1 cx1 cy1 10 (-1) (nI TT) L6 f6 (hG1) (hM1) (hO1) (hdT) (hT5) (by first | with_reducible assumption | omega) (fun q h1 h2 => by omega) (hft9)) (csV_101 hts rfl rfl ⟨Nat.le_of_ble_eq_true rfl, Nat.le_of_ble_eq_true rfl⟩) (zPVL (q0 := 0) (ci := 8) hPc hDc hK hXL hS hFc rfl rfl) rfl rfl hl.1 rfl (lv_room (Nat.le_of_ble_eq_true rfl)) dX10_run_123 ⟨show (4 * cmd md6 ft + (ft + 2)) ≤ 5 * ft + 2 by omega, show (smd md6 (fun q => nN (mn q)) ft + (4 * ft + 805)) ≤ smd (fun _ => 1) (fun q => nN (mn q)) ft + 4 * ft + 805 by omega⟩) hS hFc hFc rfl (fun t H locs ht hB hk1 hS => ?_)
                    obtain ⟨mc6, L8, f8, ea6, hB6, hP1, hD1⟩ := hB
                    rw [ht] at hP1
                    obtain ⟨hP, hD⟩ := znP (W2 := [(oc8 x (.ref sh) (.ref lw) (.ref ro) (.ref bq) (.ref bp) (.ref dq) (.ref dp) (.ref lv) (.ref sl) (nI (dn + 1)) sd ul 0), (oc10 sl mc6 (.ref ea6) (nI (dn + 1))), _, _, _, _, _, _, _, _, _, _, _, _, _, _, _]) hP hD hk1 hFc hP1 hD1 [0, 1, 15, 16] zl_64 zl_65 [0, 1, 15, 16] (by decide +kernel) rfl rfl rfl rfl rfl
                    clear hk1 hPc hDc hFc hP1 hD1 ht
                    refine lv_pop hx hb dX10_run_126 rfl ?_
                    refine lv_iload_n hx hb dX10_run_127 rfl (lv_at hl 3 rfl) ?_
                    obtain ⟨hP9, hD9⟩ := zu_part (cx := [_, _, _, _, _, _, _, _, _, _, _, _, _, _, _, _, _]) hP hD [true, true, true, true, true, true, true, true, true, true, true, true, true, true, true, true, true] rfl rfl
                    refine W.widen (k := 5 * ft + 2) (n := smd (fun _ => 1) (fun q => nN (mn q)) ft + 4 * ft + 805) (by omega) (by omega) ?_
                    rw [hQ9]
                    exact W.iret (v := nI tc6) hx hb hr (fun t ht hW => ⟨⟨congrArg (fun z => Outcome.returned (some (Value.int z))) (show (nI tc6 : Int32) = nI TT from zn_eq (by omega)), mc6, L8, f8, ea6, gh6, nt19, TX19, TY19, rt19, nw19, WX19, WY19, rw19, nd19, P19, Q19, rd19, d59, d69, d79, d89, e59, e69, e79, e89, AR19, (hB6), (hgr1), by rw [ht]; exact hP9, hD9⟩, hS.F ht⟩) hS.2.2 dX10_run_128
                  · have c_10 : ((tc6 : Nat) : Int) = 0 := zc_eq (nI_toInt b9_8) rfl c_10
                    exfalso; omega
              · have c_4 : ((g5 : Nat) : Int) < ((ft : Nat) : Int) := zc_nle (nI_toInt b9_6) (nI_toInt b9_5) c_4
                skip
                · skip
                  obtain ⟨m5, mn6, cx6, cy6, t6, hr15, hrP6, ht6⟩ := rnP_s (show g5 < ft by omega) hrp6
                  obtain ⟨hG6, hM6, hmd6, hok6, hmn6, hO6, hgr6⟩ := id hJ6
                  refine lv_aload_n hx hb dX10_run_39 rfl (lv_at hl 4 rfl) ?_
                  refine va_get (D := (dC, dI)) (ci := 8) (v := .ref sh) (C := RX10) (T := TX10) (N := 13) hx hb hts inX10 hown hK hP 0 rfl rfl 0 (Nat.le_of_ble_eq_true rfl) (hts _ mw_309) (fun _ h9 => h9) rfl dX10_run_40 ?_
                  refine lv_iload hx hb dX10_run_43 (lv_at hl 0 rfl) ?_
                  rcases run_c6 (m := m5) (md := md6) (fun q hq => by have h9 := sh_vw (cs := []) hG6.1 hG6.2.1 hFA9 (Nat.le_refl _) hq (fun c hc => by cases hc); rw [outPl_nil] at h9; exact h9) (show g5 < ft by omega) (hmd6 g5) with ⟨ht2, hvt⟩ | ⟨ht2, hA2, hvl⟩ | ⟨⟨hlv, hbd9⟩, hm0, hm6⟩ | ⟨⟨hlv, hbd9⟩, hm0, hm6⟩ | ⟨⟨hlv, hbd9⟩, hm1, hm6⟩ | ⟨⟨hlv, hbd9⟩, hm1, hm6⟩
                  · skip
                    obtain ⟨fe2, lk2, lo2, rk2, wd2, tw2, pa2, pb2, gb2, jt2, we2, fm2, hFA2, hfe2, hlk2⟩ := hvt
                    have hc9_1 : inPl L6 f6 [(oc1 fe2 rk2 wd2 tw2 pa2 pb2 (.ref lo2) (.ref lk2) fm2), (oc4 lk2 (kd g5) (st g5) .null gb2 jt2 we2)] := ⟨hfe2, hlk2, trivial⟩
                    have hD0_1 := hD
                    obtain ⟨T_1, hT_1, hP, hD⟩ := pl_oT hP hD hc9_1 (pwF hfe2.2 hlk2.2)
                    obtain ⟨hP, hD⟩ := zre (W2 := ([_, _, _, _, _, _, _, _, _, _, _, _, _, _, _, _, _, _, _] ++ va_pl T_1 f6)) hP hD rfl
                    obtain ⟨hPc, hDc, hFc, hI1⟩ := zi_sub (wc := [_, _]) hP hD hS hA [15, 16] rfl rfl
                    refine zcall (st1 := [.ref fe2]) (va_runV (As := [.int (nI g5)]) (rest := []) ⟨hx, hb, hml, hown, hts⟩ (k_Sheet_find l dC dI cI cZ cF H.size sh fa ft FA g5 fe2 (by first | with_reducible assumption | omega) (by first | with_reducible assumption | omega) (by first | exact hFA2 | exact hFA9 g5 (by first | with_reducible assumption | omega))) (csV_94 hts rfl rfl ⟨Nat.le_of_ble_eq_true rfl, Nat.le_of_ble_eq_true rfl⟩) (zPV2 (q0 := 0) (ci := 7) hPc hDc hK3 hXN rfl rfl) rfl rfl hl.1 rfl (lv_room (Nat.le_of_ble_eq_true rfl)) dX10_run_45 ⟨show 4 * cmd md6 ft ≤ 5 * ft + 2 by omega, show smd md6 (fun q => nN (mn q)) ft ≤ smd (fun _ => 1) (fun q => nN (mn q)) ft + 4 * ft + 805 by omega⟩) hS hFc hFc rfl (fun t H locs ht hB hk1 hS => ?_)
                    obtain ⟨hP1, hD1⟩ := hB
                    rw [ht] at hP1
                    replace hP := z0 hP hD hk1 hP1 hI1
                    clear hk1 hPc hDc hFc hP1 hD1 ht hI1
                    refine lv_astore (lv' := [(6, .ref fe2), (5, .int (nI g5)), (4, .int (nI tc5)), (3, .int (nI ps5)), (2, .int (nI tc6)), (0, .ref x), (1, .int lim)]) hx hb dX10_run_48 hl (Nat.le_of_ble_eq_true rfl) rfl (fun ls hl => ?_)
                    refine lv_aload hx hb dX10_run_50 (lv_at hl 0 rfl) ?_
                    refine lv_ifnull hx hb dX10_run_52 ?_
                    refine lv_aload hx hb dX10_run_55 (lv_at hl 0 rfl) ?_
                    obtain ⟨hPc, hDc, hFc, hI1⟩ := zi_sub (wc := [_, _]) hP hD hS hA [17, 18] rfl rfl
                    refine zcall (st1 := [.int (pI (1 ≤ (kd g5).toInt ∧ (kd g5).toInt ≤ 5))]) (va_runV (As := []) (rest := []) ⟨hx, hb, hml, hown, hts⟩ (k_Feature_bends_v l dC dI cI cZ cF H.size fe2 lo2 rk2 wd2 tw2 pa2 pb2 lk2 (kd g5) (st g5) gb2 jt2 we2 fm2 (.null) ) (csV_97 hts rfl rfl ⟨Nat.le_of_ble_eq_true rfl, Nat.le_of_ble_eq_true rfl⟩) (zPV2 (q0 := 0) (ci := 1) hPc hDc hK3 hXN rfl rfl) rfl rfl hl.1 rfl (lv_room (Nat.le_of_ble_eq_true rfl)) dX10_run_57 ⟨show 4 * cmd md6 ft ≤ 5 * ft + 2 by omega, show smd md6 (fun q => nN (mn q)) ft ≤ smd (fun _ => 1) (fun q => nN (mn q)) ft + 4 * ft + 805 by omega⟩) hS hFc hFc rfl (fun t H locs ht hB hk1 hS => ?_)
                    obtain ⟨hP1, hD1⟩ := hB
                    rw [ht] at hP1
                    replace hP := z0 hP hD hk1 hP1 hI1
                    clear hk1 hPc hDc hFc hP1 hD1 ht hI1
                    refine lv_if_eq (tgt := 85) hx hb dX10_run_60 rfl (fun c_11 => ?_) (fun c_11 => ?_)
                    · have c_11 : ¬ (1 ≤ (kd g5).toInt ∧ (kd g5).toInt ≤ 5) := zp_0 c_11
                      obtain ⟨hP, hD⟩ := pl_bk (X := [_, _, _, _, _, _, _, _, _, _, _, _, _, _, _, _, _]) hT_1 hP rfl hc9_1 hD0_1 rfl
                      obtain ⟨e1, e2, e3, e4⟩ := hr15.2 (fun h => by exact absurd h.1.2.2 ht2)
                      rw [e2, e3, e4] at hrP6
                      have hJ7 := hJ6
                      refine lv_iinc (v := nI (g5 + 1)) (lv' := [(5, .int (nI (g5 + 1))), (6, .ref fe2), (4, .int (nI tc5)), (3, .int (nI ps5)), (2, .int (nI tc6)), (0, .ref x), (1, .int lim)]) hx hb dX10_run_85 hl (k := 1) rfl (nI_add g5 1) (Nat.le_of_ble_eq_true rfl) rfl (fun ls hl => ?_)
                      refine lv_goto (tgt := 27) hx hb dX10_run_88 rfl ?_
                      refine W.widen (k := 4 * cmd md6 ft) (n := smd md6 (fun q => nN (mn q)) ft) (by omega) (by omega) ?_
                      exact ih_27 (g5 + 1) tc6 t6 L6 f6 own6 nw6 md6 fm6 gh6 mnk cxk cyk nt19 TX19 TY19 rt19 nw19 WX19 WY19 rw19 nd19 P19 Q19 rd19 d59 d69 d79 d89 e59 e69 e79 e89 AR19 H locs ls (by first | with_reducible assumption | omega) (by first | with_reducible assumption | omega) (hJ7) (hrP6) (by first | with_reducible assumption | omega) hP hD hS (lv_sub hl [0, 2, 3, 4, 5, 6] rfl)
                    · have c_11 : 1 ≤ (kd g5).toInt ∧ (kd g5).toInt ≤ 5 := zp_1 c_11
                      refine lv_aload_n hx hb dX10_run_63 rfl (lv_at hl 5 rfl) ?_
                      refine va_get (D := (dC, dI)) (ci := 8) (v := .ref sh) (C := RX10) (T := TX10) (N := 13) hx hb hts inX10 hown hK hP 0 rfl rfl 0 (Nat.le_of_ble_eq_true rfl) (hts _ mw_309) (fun _ h9 => h9) rfl dX10_run_64 ?_
                      refine lv_iload hx hb dX10_run_67 (lv_at hl 1 rfl) ?_
                      obtain ⟨hPc, hDc, hFc, hI1⟩ := zi_sub (wc := [_, _, _, _]) hP hD hS hA [15, 16, 17, 18] (by decide +kernel) rfl
                      refine zcall (st1 := [.null]) (va_runV (As := [.int (nI g5)]) (rest := []) ⟨hx, hb, hml, hown, hts⟩ (k_Sheet_rowThere_tv l dC dI cI cZ cF H.size sh fa ft FA g5 fe2 lo2 rk2 wd2 tw2 pa2 pb2 lk2 (kd g5) (st g5) gb2 jt2 we2 fm2 (by first | with_reducible assumption | omega) (by first | with_reducible assumption | omega) (by first | exact hFA2 | exact hFA9 g5 (by first | with_reducible assumption | omega))) (csV_144 hts rfl rfl ⟨Nat.le_of_ble_eq_true rfl, Nat.le_of_ble_eq_true rfl⟩) (zPV2 (q0 := 0) (ci := 7) hPc hDc hK3 hXN rfl rfl) rfl rfl hl.1 rfl (lv_room (Nat.le_of_ble_eq_true rfl)) dX10_run_69 ⟨show 4 * cmd md6 ft ≤ 5 * ft + 2 by omega, show smd md6 (fun q => nN (mn q)) ft ≤ smd (fun _ => 1) (fun q => nN (mn q)) ft + 4 * ft + 805 by omega⟩) hS hFc hFc rfl (fun t H locs ht hB hk1 hS => ?_)
                      obtain ⟨hP1, hD1⟩ := hB
                      rw [ht] at hP1
                      replace hP := z0 hP hD hk1 hP1 hI1
                      clear hk1 hPc hDc hFc hP1 hD1 ht hI1
                      refine lv_ifnullN (tgt := 85) hx hb dX10_run_72 rfl ?_
                      obtain ⟨hP, hD⟩ := pl_bk (X := [_, _, _, _, _, _, _, _, _, _, _, _, _, _, _, _, _]) hT_1 hP rfl hc9_1 hD0_1 rfl
                      obtain ⟨e1, e2, e3, e4⟩ := hr15.2 (fun h => by exact absurd h.1.2.2 ht2)
                      rw [e2, e3, e4] at hrP6
                      have hJ7 := hJ6
                      refine lv_iinc (v := nI (g5 + 1)) (lv' := [(5, .int (nI (g5 + 1))), (6, .ref fe2), (4, .int (nI tc5)), (3, .int (nI ps5)), (2, .int (nI tc6)), (0, .ref x), (1, .int lim)]) hx hb dX10_run_85 hl (k := 1) rfl (nI_add g5 1) (Nat.le_of_ble_eq_true rfl) rfl (fun ls hl => ?_)
                      refine lv_goto (tgt := 27) hx hb dX10_run_88 rfl ?_
                      refine W.widen (k := 4 * cmd md6 ft) (n := smd md6 (fun q => nN (mn q)) ft) (by omega) (by omega) ?_
                      exact ih_27 (g5 + 1) tc6 t6 L6 f6 own6 nw6 md6 fm6 gh6 mnk cxk cyk nt19 TX19 TY19 rt19 nw19 WX19 WY19 rw19 nd19 P19 Q19 rd19 d59 d69 d79 d89 e59 e69 e79 e89 AR19 H locs ls (by first | with_reducible assumption | omega) (by first | with_reducible assumption | omega) (hJ7) (hrP6) (by first | with_reducible assumption | omega) hP hD hS (lv_sub hl [0, 2, 3, 4, 5, 6] rfl)
                  · skip
                    obtain ⟨fe2, lk2, lo2, rk2, wd2, tw2, pa2, pb2, gb2, jt2, we2, fm2, r2, rx2, ry2, cap2, U2, V2, rg2, hFA2, hfe2, hlk2, ⟨hr2, hrx2, hry2, hne2⟩, hrr2⟩ := hvl
                    have hc9_1 : inPl L6 f6 [(oc1 fe2 rk2 wd2 tw2 pa2 pb2 (.ref lo2) (.ref lk2) fm2), (oc4 lk2 (kd g5) (st g5) (.ref r2) gb2 jt2 we2), (oc6 r2 (.ref rx2) (.ref ry2) (nI (nN (mnk g5))) rg2), (oa rx2 cI cap2 U2), (oa ry2 cI cap2 V2)] := ⟨hfe2, hlk2, hr2, hrx2, hry2, trivial⟩
                    have hD0_1 := hD
                    obtain ⟨T_1, hT_1, hP, hD⟩ := pl_oT hP hD hc9_1 (pwR hfe2.2 hlk2.2 hr2.2 hrx2.2 hry2.2 hne2)
                    obtain ⟨hP, hD⟩ := zre (W2 := ([_, _, _, _, _, _, _, _, _, _, _, _, _, _, _, _, _, _, _, _, _, _] ++ va_pl T_1 f6)) hP hD rfl
                    obtain ⟨hPc, hDc, hFc, hI1⟩ := zi_sub (wc := [_, _]) hP hD hS hA [15, 16] rfl rfl
                    refine zcall (st1 := [.ref fe2]) (va_runV (As := [.int (nI g5)]) (rest := []) ⟨hx, hb, hml, hown, hts⟩ (k_Sheet_find l dC dI cI cZ cF H.size sh fa ft FA g5 fe2 (by first | with_reducible assumption | omega) (by first | with_reducible assumption | omega) (by first | exact hFA2 | exact hFA9 g5 (by first | with_reducible assumption | omega))) (csV_94 hts rfl rfl ⟨Nat.le_of_ble_eq_true rfl, Nat.le_of_ble_eq_true rfl⟩) (zPV2 (q0 := 0) (ci := 7) hPc hDc hK3 hXN rfl rfl) rfl rfl hl.1 rfl (lv_room (Nat.le_of_ble_eq_true rfl)) dX10_run_45 ⟨show 4 * cmd md6 ft ≤ 5 * ft + 2 by omega, show smd md6 (fun q => nN (mn q)) ft ≤ smd (fun _ => 1) (fun q => nN (mn q)) ft + 4 * ft + 805 by omega⟩) hS hFc hFc rfl (fun t H locs ht hB hk1 hS => ?_)
                    obtain ⟨hP1, hD1⟩ := hB
                    rw [ht] at hP1
                    replace hP := z0 hP hD hk1 hP1 hI1
                    clear hk1 hPc hDc hFc hP1 hD1 ht hI1
                    refine lv_astore (lv' := [(6, .ref fe2), (5, .int (nI g5)), (4, .int (nI tc5)), (3, .int (nI ps5)), (2, .int (nI tc6)), (0, .ref x), (1, .int lim)]) hx hb dX10_run_48 hl (Nat.le_of_ble_eq_true rfl) rfl (fun ls hl => ?_)
                    refine lv_aload hx hb dX10_run_50 (lv_at hl 0 rfl) ?_
                    refine lv_ifnull hx hb dX10_run_52 ?_
                    refine lv_aload hx hb dX10_run_55 (lv_at hl 0 rfl) ?_
                    obtain ⟨hPc, hDc, hFc, hI1⟩ := zi_sub (wc := [_, _]) hP hD hS hA [17, 18] rfl rfl
                    refine zcall (st1 := [.int (pI (1 ≤ (kd g5).toInt ∧ (kd g5).toInt ≤ 5))]) (va_runV (As := []) (rest := []) ⟨hx, hb, hml, hown, hts⟩ (k_Feature_bends_v l dC dI cI cZ cF H.size fe2 lo2 rk2 wd2 tw2 pa2 pb2 lk2 (kd g5) (st g5) gb2 jt2 we2 fm2 (.ref r2) ) (csV_97 hts rfl rfl ⟨Nat.le_of_ble_eq_true rfl, Nat.le_of_ble_eq_true rfl⟩) (zPV2 (q0 := 0) (ci := 1) hPc hDc hK3 hXN rfl rfl) rfl rfl hl.1 rfl (lv_room (Nat.le_of_ble_eq_true rfl)) dX10_run_57 ⟨show 4 * cmd md6 ft ≤ 5 * ft + 2 by omega, show smd md6 (fun q => nN (mn q)) ft ≤ smd (fun _ => 1) (fun q => nN (mn q)) ft + 4 * ft + 805 by omega⟩) hS hFc hFc rfl (fun t H locs ht hB hk1 hS => ?_)
                    obtain ⟨hP1, hD1⟩ := hB
                    rw [ht] at hP1
                    replace hP := z0 hP hD hk1 hP1 hI1
                    clear hk1 hPc hDc hFc hP1 hD1 ht hI1
                    refine lv_if_eq (tgt := 85) hx hb dX10_run_60 rfl (fun c_12 => ?_) (fun c_12 => ?_)
                    · have c_12 : ¬ (1 ≤ (kd g5).toInt ∧ (kd g5).toInt ≤ 5) := zp_0 c_12
                      obtain ⟨hP, hD⟩ := pl_bk (X := [_, _, _, _, _, _, _, _, _, _, _, _, _, _, _, _, _]) hT_1 hP rfl hc9_1 hD0_1 rfl
                      obtain ⟨e1, e2, e3, e4⟩ := hr15.2 (fun h => by have h1 := h.1.2.1; have h2 := h.2; have h3 := hkr g5 h.1.1; omega)
                      rw [e2, e3, e4] at hrP6
                      have hJ7 := hJ6
                      refine lv_iinc (v := nI (g5 + 1)) (lv' := [(5, .int (nI (g5 + 1))), (6, .ref fe2), (4, .int (nI tc5)), (3, .int (nI ps5)), (2, .int (nI tc6)), (0, .ref x), (1, .int lim)]) hx hb dX10_run_85 hl (k := 1) rfl (nI_add g5 1) (Nat.le_of_ble_eq_true rfl) rfl (fun ls hl => ?_)
                      refine lv_goto (tgt := 27) hx hb dX10_run_88 rfl ?_
                      refine W.widen (k := 4 * cmd md6 ft) (n := smd md6 (fun q => nN (mn q)) ft) (by omega) (by omega) ?_
                      exact ih_27 (g5 + 1) tc6 t6 L6 f6 own6 nw6 md6 fm6 gh6 mnk cxk cyk nt19 TX19 TY19 rt19 nw19 WX19 WY19 rw19 nd19 P19 Q19 rd19 d59 d69 d79 d89 e59 e69 e79 e89 AR19 H locs ls (by first | with_reducible assumption | omega) (by first | with_reducible assumption | omega) (hJ7) (hrP6) (by first | with_reducible assumption | omega) hP hD hS (lv_sub hl [0, 2, 3, 4, 5, 6] rfl)
                    · have c_12 : 1 ≤ (kd g5).toInt ∧ (kd g5).toInt ≤ 5 := zp_1 c_12
                      refine lv_aload_n hx hb dX10_run_63 rfl (lv_at hl 5 rfl) ?_
                      refine va_get (D := (dC, dI)) (ci := 8) (v := .ref sh) (C := RX10) (T := TX10) (N := 13) hx hb hts inX10 hown hK hP 0 rfl rfl 0 (Nat.le_of_ble_eq_true rfl) (hts _ mw_309) (fun _ h9 => h9) rfl dX10_run_64 ?_
                      refine lv_iload hx hb dX10_run_67 (lv_at hl 1 rfl) ?_
                      obtain ⟨hPc, hDc, hFc, hI1⟩ := zi_sub (wc := [_, _, _, _]) hP hD hS hA [15, 16, 17, 18] (by decide +kernel) rfl
                      refine zcall (st1 := [.null]) (va_runV (As := [.int (nI g5)]) (rest := []) ⟨hx, hb, hml, hown, hts⟩ (k_Sheet_rowThere_sv l dC dI cI cZ cF H.size sh fa ft FA g5 fe2 lo2 rk2 wd2 tw2 pa2 pb2 lk2 (kd g5) (st g5) gb2 jt2 we2 fm2 (.ref r2) (by first | with_reducible assumption | omega) (by first | with_reducible assumption | omega) (by first | exact hFA2 | exact hFA9 g5 (by first | with_reducible assumption | omega)) (by first | exact hlv.2.1 | omega)) (csV_144 hts rfl rfl ⟨Nat.le_of_ble_eq_true rfl, Nat.le_of_ble_eq_true rfl⟩) (zPV2 (q0 := 0) (ci := 7) hPc hDc hK3 hXN rfl rfl) rfl rfl hl.1 rfl (lv_room (Nat.le_of_ble_eq_true rfl)) dX10_run_69 ⟨show 4 * cmd md6 ft ≤ 5 * ft + 2 by omega, show smd md6 (fun q => nN (mn q)) ft ≤ smd (fun _ => 1) (fun q => nN (mn q)) ft + 4 * ft + 805 by omega⟩) hS hFc hFc rfl (fun t H locs ht hB hk1 hS => ?_)
                      obtain ⟨hP1, hD1⟩ := hB
                      rw [ht] at hP1
                      replace hP := z0 hP hD hk1 hP1 hI1
                      clear hk1 hPc hDc hFc hP1 hD1 ht hI1
                      refine lv_ifnullN (tgt := 85) hx hb dX10_run_72 rfl ?_
                      obtain ⟨hP, hD⟩ := pl_bk (X := [_, _, _, _, _, _, _, _, _, _, _, _, _, _, _, _, _]) hT_1 hP rfl hc9_1 hD0_1 rfl
                      obtain ⟨e1, e2, e3, e4⟩ := hr15.2 (fun h => by have h1 := h.1.2.1; have h2 := h.2; have h3 := hkr g5 h.1.1; omega)
                      rw [e2, e3, e4] at hrP6
                      have hJ7 := hJ6
                      refine lv_iinc (v := nI (g5 + 1)) (lv' := [(5, .int (nI (g5 + 1))), (6, .ref fe2), (4, .int (nI tc5)), (3, .int (nI ps5)), (2, .int (nI tc6)), (0, .ref x), (1, .int lim)]) hx hb dX10_run_85 hl (k := 1) rfl (nI_add g5 1) (Nat.le_of_ble_eq_true rfl) rfl (fun ls hl => ?_)
                      refine lv_goto (tgt := 27) hx hb dX10_run_88 rfl ?_
                      refine W.widen (k := 4 * cmd md6 ft) (n := smd md6 (fun q => nN (mn q)) ft) (by omega) (by omega) ?_
                      exact ih_27 (g5 + 1) tc6 t6 L6 f6 own6 nw6 md6 fm6 gh6 mnk cxk cyk nt19 TX19 TY19 rt19 nw19 WX19 WY19 rw19 nd19 P19 Q19 rd19 d59 d69 d79 d89 e59 e69 e79 e89 AR19 H locs ls (by first | with_reducible assumption | omega) (by first | with_reducible assumption | omega) (hJ7) (hrP6) (by first | with_reducible assumption | omega) hP hD hS (lv_sub hl [0, 2, 3, 4, 5, 6] rfl)
                  · skip
                    obtain ⟨n5, hpl5⟩ := hr15.1 ⟨hlv, by omega, by omega⟩
                    have hI5 := okA_th hok6 hlv hbd9
                    have hpe5 := plN_end _ _ _ _ _ _ _ _ _ hI5.1 hpl5
                    have hok7 := okA_s hok6 hlv hbd9 hpl5
                    refine ex13 (sh_fc hG6.1 hG6.2.1 (Nat.le_refl _) (show g5 < ft by omega) hlv.2.2) (fun lo5 lx5 ly5 ln5 LX5 LY5 we5 r5 rx5 ry5 cap5 X5 Y5 hc5 => ?_)
                    rw [((hM6 g5 (by omega)).1 hm6).1, hm6] at hc5
                    have hc5 := fc_0 hc5
                    have hmnq0 := hmn6 g5 hm6
                    have hmnN0 : nN (mnk g5) = nN (mn g5) := (by rw [hmnq0])
                    have hcu : cmd md6 ft + 1 ≤ ft := (by have h9 := cmd_le (upN md6 g5 1) ft; rw [cmd_s ft (by omega), if_pos hm6] at h9; exact h9)
                    have hsu : smd md6 (fun q => nN (mn q)) ft + (2 * nN (mn g5) + 10) ≤ smd (fun _ => 1) (fun q => nN (mn q)) ft := (by have h9 := smd_le (upN md6 g5 1) (fun q => nN (mn q)) ft; rw [smd_s ft (by omega), if_pos hm6] at h9; exact h9)
                    have hb5 := hc5.2.2.1
                    have hbd := hc5.2.2.2.2.2 hbd9
                    have hn40 := hI5.1.2.1
                    have hat9 := lo_at hO6 (Nat.le_refl _) (show g5 < ft by omega) hc5.1.1 hc5.1.2.2.2 (by have := hc5.2.1; omega) hc5.1.2.1 hb5.2.2
                    have hds9 := dsR_cg hc5.2.2.2.2.1 (mSm_ds (by omega) (hok6 g5 hlv).2)
                    have hc9_1 : inPl L6 f6 [(oc1 (fe g5) (rk g5) (wd g5) (tw g5) (pa g5) (pb g5) (.ref lo5) (.ref (nw6 g5)) .null), (oc4 (nw6 g5) (kd g5) (st g5) (.ref r5) (gb g5) (it g5) (nI we5)), (oc6 r5 (.ref rx5) (.ref ry5) (nI (nN (mnk g5))) (rgK (kd g5).toInt)), (oa rx5 cI cap5 X5), (oa ry5 cI cap5 Y5), (oc6 lo5 (.ref lx5) (.ref ly5) (nI ln5) 0), (oa lx5 cI (cl g5) LX5), (oa ly5 cI (cl g5) LY5)] := ⟨ce_pl hc5.1.1, ce_pl hc5.1.2.1, ce_pl hc5.1.2.2.1.1, ce_pl hc5.1.2.2.1.2.1, ce_pl hc5.1.2.2.1.2.2.1, ce_pl hc5.1.2.2.2.1, ce_pl hc5.1.2.2.2.2.1, ce_pl hc5.1.2.2.2.2.2.1, trivial⟩
                    have hD0_1 := hD
                    obtain ⟨T_1, hT_1, hP, hD⟩ := pl_oT hP hD hc9_1 (pw8 hc5 (by omega))
                    obtain ⟨hP, hD⟩ := zre (W2 := ([_, _, _, _, _, _, _, _, _, _, _, _, _, _, _, _, _, _, _, _, _, _, _, _, _] ++ va_pl T_1 f6)) hP hD rfl
                    obtain ⟨hPc, hDc, hFc, hI1⟩ := zi_sub (wc := [_, _]) hP hD hS hA [15, 16] rfl rfl
                    refine zcall (st1 := [.ref (fe g5)]) (va_runV (As := [.int (nI g5)]) (rest := []) ⟨hx, hb, hml, hown, hts⟩ (k_Sheet_find l dC dI cI cZ cF H.size sh fa ft FA g5 (fe g5) (by first | with_reducible assumption | omega) (by first | with_reducible assumption | omega) (by first | exact hFA2 | exact hFA9 g5 (by first | with_reducible assumption | omega))) (csV_94 hts rfl rfl ⟨Nat.le_of_ble_eq_true rfl, Nat.le_of_ble_eq_true rfl⟩) (zPV2 (q0 := 0) (ci := 7) hPc hDc hK3 hXN rfl rfl) rfl rfl hl.1 rfl (lv_room (Nat.le_of_ble_eq_true rfl)) dX10_run_45 ⟨show 4 * cmd md6 ft ≤ 5 * ft + 2 by omega, show smd md6 (fun q => nN (mn q)) ft ≤ smd (fun _ => 1) (fun q => nN (mn q)) ft + 4 * ft + 805 by omega⟩) hS hFc hFc rfl (fun t H locs ht hB hk1 hS => ?_)
                    obtain ⟨hP1, hD1⟩ := hB
                    rw [ht] at hP1
                    replace hP := z0 hP hD hk1 hP1 hI1
                    clear hk1 hPc hDc hFc hP1 hD1 ht hI1
                    refine lv_astore (lv' := [(6, .ref (fe g5)), (5, .int (nI g5)), (4, .int (nI tc5)), (3, .int (nI ps5)), (2, .int (nI tc6)), (0, .ref x), (1, .int lim)]) hx hb dX10_run_48 hl (Nat.le_of_ble_eq_true rfl) rfl (fun ls hl => ?_)
                    refine lv_aload hx hb dX10_run_50 (lv_at hl 0 rfl) ?_
                    refine lv_ifnull hx hb dX10_run_52 ?_
                    refine lv_aload hx hb dX10_run_55 (lv_at hl 0 rfl) ?_
                    obtain ⟨hPc, hDc, hFc, hI1⟩ := zi_sub (wc := [_, _]) hP hD hS hA [17, 18] rfl rfl
                    refine zcall (st1 := [.int (pI (1 ≤ (kd g5).toInt ∧ (kd g5).toInt ≤ 5))]) (va_runV (As := []) (rest := []) ⟨hx, hb, hml, hown, hts⟩ (k_Feature_bends_r l dC dI cI cZ cF H.size (fe g5) lo5 (rk g5) (wd g5) (tw g5) (pa g5) (pb g5) (nw6 g5) (kd g5) (st g5) (gb g5) (it g5) (nI we5) r5 ) (csV_97 hts rfl rfl ⟨Nat.le_of_ble_eq_true rfl, Nat.le_of_ble_eq_true rfl⟩) (zPV2 (q0 := 0) (ci := 1) hPc hDc hK3 hXN rfl rfl) rfl rfl hl.1 rfl (lv_room (Nat.le_of_ble_eq_true rfl)) dX10_run_57 ⟨show 4 * cmd md6 ft ≤ 5 * ft + 2 by omega, show smd md6 (fun q => nN (mn q)) ft ≤ smd (fun _ => 1) (fun q => nN (mn q)) ft + 4 * ft + 805 by omega⟩) hS hFc hFc rfl (fun t H locs ht hB hk1 hS => ?_)
                    obtain ⟨hP1, hD1⟩ := hB
                    rw [ht] at hP1
                    replace hP := z0 hP hD hk1 hP1 hI1
                    clear hk1 hPc hDc hFc hP1 hD1 ht hI1
                    refine lv_if_eq (tgt := 85) hx hb dX10_run_60 rfl (fun c_13 => ?_) (fun c_13 => ?_)
                    · have c_13 : ¬ (1 ≤ (kd g5).toInt ∧ (kd g5).toInt ≤ 5) := zp_0 c_13
                      exfalso; exact absurd hbd9 (by first | with_reducible assumption | assumption)
                    · have c_13 : 1 ≤ (kd g5).toInt ∧ (kd g5).toInt ≤ 5 := zp_1 c_13
                      refine lv_aload_n hx hb dX10_run_63 rfl (lv_at hl 5 rfl) ?_
                      refine va_get (D := (dC, dI)) (ci := 8) (v := .ref sh) (C := RX10) (T := TX10) (N := 13) hx hb hts inX10 hown hK hP 0 rfl rfl 0 (Nat.le_of_ble_eq_true rfl) (hts _ mw_309) (fun _ h9 => h9) rfl dX10_run_64 ?_
                      refine lv_iload hx hb dX10_run_67 (lv_at hl 1 rfl) ?_
                      obtain ⟨hPc, hDc, hFc, hI1⟩ := zi_sub (wc := [_, _, _, _]) hP hD hS hA [15, 16, 17, 18] (by decide +kernel) rfl
                      refine zcall (st1 := [.ref r5]) (va_runV (As := [.int (nI g5)]) (rest := []) ⟨hx, hb, hml, hown, hts⟩ (k_Sheet_rowThere_yv l dC dI cI cZ cF H.size sh fa ft FA g5 (fe g5) lo5 (rk g5) (wd g5) (tw g5) (pa g5) (pb g5) (nw6 g5) (kd g5) (st g5) (gb g5) (it g5) (nI we5) r5 (.null) (by first | with_reducible assumption | omega) (by first | with_reducible assumption | omega) (by first | exact hFA2 | exact hFA9 g5 (by first | with_reducible assumption | omega)) (by first | exact hlv.2.1 | omega)) (csV_144 hts rfl rfl ⟨Nat.le_of_ble_eq_true rfl, Nat.le_of_ble_eq_true rfl⟩) (zPV2 (q0 := 0) (ci := 7) hPc hDc hK3 hXN rfl rfl) rfl rfl hl.1 rfl (lv_room (Nat.le_of_ble_eq_true rfl)) dX10_run_69 ⟨show 4 * cmd md6 ft ≤ 5 * ft + 2 by omega, show smd md6 (fun q => nN (mn q)) ft ≤ smd (fun _ => 1) (fun q => nN (mn q)) ft + 4 * ft + 805 by omega⟩) hS hFc hFc rfl (fun t H locs ht hB hk1 hS => ?_)
                      obtain ⟨hP1, hD1⟩ := hB
                      rw [ht] at hP1
                      replace hP := z0 hP hD hk1 hP1 hI1
                      clear hk1 hPc hDc hFc hP1 hD1 ht hI1
                      refine lv_ifnull hx hb dX10_run_72 ?_
                      refine lv_iload_n hx hb dX10_run_75 rfl (lv_at hl 4 rfl) ?_
                      refine lv_aload_n hx hb dX10_run_76 rfl (lv_at hl 5 rfl) ?_
                      refine lv_aload hx hb dX10_run_77 (lv_at hl 0 rfl) ?_
                      refine lv_iload_n hx hb dX10_run_79 rfl (lv_at hl 6 rfl) ?_
                      obtain ⟨hPc, hDc, hFc⟩ := zo_part (cx := [_, _, _, _, _, _, _, _, _, _, _, _, _, _, _, _, _, _, _, _, _]) hP hD hS hA [0, 2, 3, 4, 5, 6, 7, 8, 9, 10, 11, 12, 13, 14, 15, 16, 17, 18, 19, 20, 21] (by decide +kernel) rfl
                      refine zcall (st1 := [.int 0, .int (nI tc6)]) (va_runV (As := [.ref (fe g5), .int lim]) (rest := [.int (nI tc6)]) ⟨hx, hb, hml, hown, hts⟩ (k_thin_z l dC dI cI cZ cF H.size x ro bq bp dq dp lv sl (nI dn) sd ul su lw dr tg wy br bo aa tx ty nt19 TX19 TY19 rt19 wx wz nw19 WX19 WY19 rw19 dx dy nd19 cd P19 Q19 rd19 d59 d69 d79 d89 e59 e69 e79 e89 AR19 sh fa ft FA (fe g5) lo5 (rk g5) (wd g5) (tw g5) (pa g5) (pb g5) (nw6 g5) (gb g5) (it g5) r5 rx5 ry5 (nN (mnk g5)) cap5 X5 Y5 g5 we5 LM 0 n5 T_1 f6 kd st tn mnk cxk cyk mn6 cx6 cy6 lim (.null) (by first | with_reducible assumption | omega) (by first | with_reducible assumption | omega) (hFA9 g5 (by first | with_reducible assumption | omega)) (by rw [← hT_1]; exact fc_vw hc5 (by first | with_reducible assumption | omega) (by first | with_reducible assumption | omega) hG6.1 hG6.2.1 hFA9 (Nat.le_refl _)) (hI5) (by first | exact hpl5 | (rw [hm0] at hpl5; exact hpl5)) (hL) (hc5.2.2.2.2.1) (by first | with_reducible assumption | omega) (by first | with_reducible assumption | omega) (rfl)) (csV_108 hts rfl rfl ⟨Nat.le_of_ble_eq_true rfl, Nat.le_of_ble_eq_true rfl⟩) (zPV2 (q0 := 0) (ci := 8) hPc hDc hK3 hXN rfl rfl) rfl rfl hl.1 rfl (lv_room (Nat.le_of_ble_eq_true rfl)) dX10_run_80 ⟨show 4 * cmd md6 ft ≤ 5 * ft + 2 by omega, show smd md6 (fun q => nN (mn q)) ft ≤ smd (fun _ => 1) (fun q => nN (mn q)) ft + 4 * ft + 805 by omega⟩) hS hFc hFc rfl (fun t H locs ht hB hk1 hS => ?_)
                      refine ex21 hB (fun nt66 TX66 TY66 rt66 nw66 WX66 WY66 rw66 nd66 P66 Q66 rd66 g066 g166 g266 g366 g466 g566 g666 g766 AR66 hB0 => ?_)
                      clear hB
                      obtain ⟨hP1, hD1⟩ := hB0
                      rw [ht] at hP1
                      obtain ⟨hP, hD⟩ := znP (W2 := [_, _, _, (oc6 tg (.ref tx) (.ref ty) (nI nt66) rt66), (oa tx cI 3 TX66), (oa ty cI 3 TY66), (oc6 wy (.ref wx) (.ref wz) (nI nw66) rw66), (oa wx cI 2 WX66), (oa wz cI 2 WY66), (oc6 dr (.ref dx) (.ref dy) (nI nd66) rd66), (oa dx cI cd P66), (oa dy cI cd Q66), (oc0 br g066 g166 g266 g366), (oc0 bo g466 g566 g666 g766), (oa aa cI 40 AR66), _, _, _, _, _, _, _, _, _, _]) hP hD hk1 hFc hP1 hD1 zl_66 zl_67 zl_67 zl_66 (by decide +kernel) rfl rfl rfl rfl rfl
                      clear hk1 hPc hDc hFc hP1 hD1 ht
                      refine lv_iadd hx hb dX10_run_83 ?_
                      refine zz_i (v := nI (tc6 + 0)) (nI_add tc6 0) ?_
                      refine lv_istore_n (lv' := [(2, .int (nI (tc6 + 0))), (6, .ref (fe g5)), (5, .int (nI g5)), (4, .int (nI tc5)), (3, .int (nI ps5)), (0, .ref x), (1, .int lim)]) hx hb dX10_run_84 rfl hl (Nat.le_of_ble_eq_true rfl) rfl (fun ls hl => ?_)
                      obtain ⟨hP, hD⟩ := pl_bk (X := [_, _, _, _, _, _, _, _, _, _, _, _, _, _, _, _, _]) hT_1 hP rfl hc9_1 hD0_1 rfl
                      obtain ⟨e2, e3, e4, e5, e6⟩ := plN_z hm0 hpl5
                      rw [e2, e3, e4] at hrP6
                      have hJ7 := hJ6
                      refine lv_iinc (v := nI (g5 + 1)) (lv' := [(5, .int (nI (g5 + 1))), (2, .int (nI (tc6 + 0))), (6, .ref (fe g5)), (4, .int (nI tc5)), (3, .int (nI ps5)), (0, .ref x), (1, .int lim)]) hx hb dX10_run_85 hl (k := 2) rfl (nI_add g5 1) (Nat.le_of_ble_eq_true rfl) rfl (fun ls hl => ?_)
                      refine lv_goto (tgt := 27) hx hb dX10_run_88 rfl ?_
                      refine W.widen (k := 4 * cmd md6 ft) (n := smd md6 (fun q => nN (mn q)) ft) (by omega) (by omega) ?_
                      exact ih_27 (g5 + 1) (tc6 + 0) t6 L6 f6 own6 nw6 md6 fm6 gh6 mnk cxk cyk nt66 TX66 TY66 rt66 nw66 WX66 WY66 rw66 nd66 P66 Q66 rd66 g066 g166 g266 g366 g466 g566 g666 g766 AR66 H locs ls (by first | with_reducible assumption | omega) (by first | with_reducible assumption | omega) (hJ7) (hrP6) (by first | with_reducible assumption | omega) hP hD hS (lv_sub hl [0, 3, 4, 1, 5, 6] rfl)
                  · skip
                    obtain ⟨n5, hpl5⟩ := hr15.1 ⟨hlv, by omega, by omega⟩
                    have hI5 := okA_th hok6 hlv hbd9
                    have hpe5 := plN_end _ _ _ _ _ _ _ _ _ hI5.1 hpl5
                    have hok7 := okA_s hok6 hlv hbd9 hpl5
                    refine ex13 (sh_fc hG6.1 hG6.2.1 (Nat.le_refl _) (show g5 < ft by omega) hlv.2.2) (fun lo5 lx5 ly5 ln5 LX5 LY5 we5 r5 rx5 ry5 cap5 X5 Y5 hc5 => ?_)
                    rw [((hM6 g5 (by omega)).2 (by omega)).1] at hc5
                    have hc5 := fc_1 hm6 hc5
                    have hb5 := hc5.2.2.1
                    have hbd := hc5.2.2.2.2.2 hbd9
                    have hn40 := hI5.1.2.1
                    have hat9 := lo_at hO6 (Nat.le_refl _) (show g5 < ft by omega) hc5.1.1 hc5.1.2.2.2 (by have := hc5.2.1; omega) hc5.1.2.1 hb5.2.2
                    have hds9 := dsR_cg hc5.2.2.2.2.1 (mSm_ds (by omega) (hok6 g5 hlv).2)
                    have hc9_1 : inPl L6 f6 [(oc1 (fe g5) (rk g5) (wd g5) (tw g5) (pa g5) (pb g5) (.ref lo5) (.ref (nw6 g5)) (.ref (la dn g5))), (oc4 (nw6 g5) (kd g5) (st g5) (.ref r5) (gb g5) (it g5) (nI we5)), (oc6 r5 (.ref rx5) (.ref ry5) (nI (nN (mnk g5))) (rgK (kd g5).toInt)), (oa rx5 cI cap5 X5), (oa ry5 cI cap5 Y5), (oc6 lo5 (.ref lx5) (.ref ly5) (nI ln5) 0), (oa lx5 cI (cl g5) LX5), (oa ly5 cI (cl g5) LY5)] := ⟨ce_pl hc5.1.1, ce_pl hc5.1.2.1, ce_pl hc5.1.2.2.1.1, ce_pl hc5.1.2.2.1.2.1, ce_pl hc5.1.2.2.1.2.2.1, ce_pl hc5.1.2.2.2.1, ce_pl hc5.1.2.2.2.2.1, ce_pl hc5.1.2.2.2.2.2.1, trivial⟩
                    have hD0_1 := hD
                    obtain ⟨T_1, hT_1, hP, hD⟩ := pl_oT hP hD hc9_1 (pw8 hc5 (by omega))
                    obtain ⟨hP, hD⟩ := zre (W2 := ([_, _, _, _, _, _, _, _, _, _, _, _, _, _, _, _, _, _, _, _, _, _, _, _, _] ++ va_pl T_1 f6)) hP hD rfl
                    obtain ⟨hPc, hDc, hFc, hI1⟩ := zi_sub (wc := [_, _]) hP hD hS hA [15, 16] rfl rfl
                    refine zcall (st1 := [.ref (fe g5)]) (va_runV (As := [.int (nI g5)]) (rest := []) ⟨hx, hb, hml, hown, hts⟩ (k_Sheet_find l dC dI cI cZ cF H.size sh fa ft FA g5 (fe g5) (by first | with_reducible assumption | omega) (by first | with_reducible assumption | omega) (by first | exact hFA2 | exact hFA9 g5 (by first | with_reducible assumption | omega))) (csV_94 hts rfl rfl ⟨Nat.le_of_ble_eq_true rfl, Nat.le_of_ble_eq_true rfl⟩) (zPV2 (q0 := 0) (ci := 7) hPc hDc hK3 hXN rfl rfl) rfl rfl hl.1 rfl (lv_room (Nat.le_of_ble_eq_true rfl)) dX10_run_45 ⟨show 4 * cmd md6 ft ≤ 5 * ft + 2 by omega, show smd md6 (fun q => nN (mn q)) ft ≤ smd (fun _ => 1) (fun q => nN (mn q)) ft + 4 * ft + 805 by omega⟩) hS hFc hFc rfl (fun t H locs ht hB hk1 hS => ?_)
                    obtain ⟨hP1, hD1⟩ := hB
                    rw [ht] at hP1
                    replace hP := z0 hP hD hk1 hP1 hI1
                    clear hk1 hPc hDc hFc hP1 hD1 ht hI1
                    refine lv_astore (lv' := [(6, .ref (fe g5)), (5, .int (nI g5)), (4, .int (nI tc5)), (3, .int (nI ps5)), (2, .int (nI tc6)), (0, .ref x), (1, .int lim)]) hx hb dX10_run_48 hl (Nat.le_of_ble_eq_true rfl) rfl (fun ls hl => ?_)
                    refine lv_aload hx hb dX10_run_50 (lv_at hl 0 rfl) ?_
                    refine lv_ifnull hx hb dX10_run_52 ?_
                    refine lv_aload hx hb dX10_run_55 (lv_at hl 0 rfl) ?_
                    obtain ⟨hPc, hDc, hFc, hI1⟩ := zi_sub (wc := [_, _]) hP hD hS hA [17, 18] rfl rfl
                    refine zcall (st1 := [.int (pI (1 ≤ (kd g5).toInt ∧ (kd g5).toInt ≤ 5))]) (va_runV (As := []) (rest := []) ⟨hx, hb, hml, hown, hts⟩ (k_Feature_bends_f_r l dC dI cI cZ cF H.size (fe g5) lo5 (rk g5) (wd g5) (tw g5) (pa g5) (pb g5) (nw6 g5) (kd g5) (st g5) (gb g5) (it g5) (nI we5) r5 (la dn g5) ) (csV_97 hts rfl rfl ⟨Nat.le_of_ble_eq_true rfl, Nat.le_of_ble_eq_true rfl⟩) (zPV2 (q0 := 0) (ci := 1) hPc hDc hK3 hXN rfl rfl) rfl rfl hl.1 rfl (lv_room (Nat.le_of_ble_eq_true rfl)) dX10_run_57 ⟨show 4 * cmd md6 ft ≤ 5 * ft + 2 by omega, show smd md6 (fun q => nN (mn q)) ft ≤ smd (fun _ => 1) (fun q => nN (mn q)) ft + 4 * ft + 805 by omega⟩) hS hFc hFc rfl (fun t H locs ht hB hk1 hS => ?_)
                    obtain ⟨hP1, hD1⟩ := hB
                    rw [ht] at hP1
                    replace hP := z0 hP hD hk1 hP1 hI1
                    clear hk1 hPc hDc hFc hP1 hD1 ht hI1
                    refine lv_if_eq (tgt := 85) hx hb dX10_run_60 rfl (fun c_14 => ?_) (fun c_14 => ?_)
                    · have c_14 : ¬ (1 ≤ (kd g5).toInt ∧ (kd g5).toInt ≤ 5) := zp_0 c_14
                      exfalso; exact absurd hbd9 (by first | with_reducible assumption | assumption)
                    · have c_14 : 1 ≤ (kd g5).toInt ∧ (kd g5).toInt ≤ 5 := zp_1 c_14
                      refine lv_aload_n hx hb dX10_run_63 rfl (lv_at hl 5 rfl) ?_
                      refine va_get (D := (dC, dI)) (ci := 8) (v := .ref sh) (C := RX10) (T := TX10) (N := 13) hx hb hts inX10 hown hK hP 0 rfl rfl 0 (Nat.le_of_ble_eq_true rfl) (hts _ mw_309) (fun _ h9 => h9) rfl dX10_run_64 ?_
                      refine lv_iload hx hb dX10_run_67 (lv_at hl 1 rfl) ?_
                      obtain ⟨hPc, hDc, hFc, hI1⟩ := zi_sub (wc := [_, _, _, _]) hP hD hS hA [15, 16, 17, 18] (by decide +kernel) rfl
                      refine zcall (st1 := [.ref r5]) (va_runV (As := [.int (nI g5)]) (rest := []) ⟨hx, hb, hml, hown, hts⟩ (k_Sheet_rowThere_yv l dC dI cI cZ cF H.size sh fa ft FA g5 (fe g5) lo5 (rk g5) (wd g5) (tw g5) (pa g5) (pb g5) (nw6 g5) (kd g5) (st g5) (gb g5) (it g5) (nI we5) r5 (.ref (la dn g5)) (by first | with_reducible assumption | omega) (by first | with_reducible assumption | omega) (by first | exact hFA2 | exact hFA9 g5 (by first | with_reducible assumption | omega)) (by first | exact hlv.2.1 | omega)) (csV_144 hts rfl rfl ⟨Nat.le_of_ble_eq_true rfl, Nat.le_of_ble_eq_true rfl⟩) (zPV2 (q0 := 0) (ci := 7) hPc hDc hK3 hXN rfl rfl) rfl rfl hl.1 rfl (lv_room (Nat.le_of_ble_eq_true rfl)) dX10_run_69 ⟨show 4 * cmd md6 ft ≤ 5 * ft + 2 by omega, show smd md6 (fun q => nN (mn q)) ft ≤ smd (fun _ => 1) (fun q => nN (mn q)) ft + 4 * ft + 805 by omega⟩) hS hFc hFc rfl (fun t H locs ht hB hk1 hS => ?_)
                      obtain ⟨hP1, hD1⟩ := hB
                      rw [ht] at hP1
                      replace hP := z0 hP hD hk1 hP1 hI1
                      clear hk1 hPc hDc hFc hP1 hD1 ht hI1
                      refine lv_ifnull hx hb dX10_run_72 ?_
                      refine lv_iload_n hx hb dX10_run_75 rfl (lv_at hl 4 rfl) ?_
                      refine lv_aload_n hx hb dX10_run_76 rfl (lv_at hl 5 rfl) ?_
                      refine lv_aload hx hb dX10_run_77 (lv_at hl 0 rfl) ?_
                      refine lv_iload_n hx hb dX10_run_79 rfl (lv_at hl 6 rfl) ?_
                      obtain ⟨hPc, hDc, hFc⟩ := zo_part (cx := [_, _, _, _, _, _, _, _, _, _, _, _, _, _, _, _, _, _, _, _, _]) hP hD hS hA [0, 2, 3, 4, 5, 6, 7, 8, 9, 10, 11, 12, 13, 14, 15, 16, 17, 18, 19, 20, 21] (by decide +kernel) rfl
                      refine zcall (st1 := [.int 0, .int (nI tc6)]) (va_runV (As := [.ref (fe g5), .int lim]) (rest := [.int (nI tc6)]) ⟨hx, hb, hml, hown, hts⟩ (k_thin_z l dC dI cI cZ cF H.size x ro bq bp dq dp lv sl (nI dn) sd ul su lw dr tg wy br bo aa tx ty nt19 TX19 TY19 rt19 wx wz nw19 WX19 WY19 rw19 dx dy nd19 cd P19 Q19 rd19 d59 d69 d79 d89 e59 e69 e79 e89 AR19 sh fa ft FA (fe g5) lo5 (rk g5) (wd g5) (tw g5) (pa g5) (pb g5) (nw6 g5) (gb g5) (it g5) r5 rx5 ry5 (nN (mnk g5)) cap5 X5 Y5 g5 we5 LM 0 n5 T_1 f6 kd st tn mnk cxk cyk mn6 cx6 cy6 lim (.ref (la dn g5)) (by first | with_reducible assumption | omega) (by first | with_reducible assumption | omega) (hFA9 g5 (by first | with_reducible assumption | omega)) (by rw [← hT_1]; exact fc_vw hc5 (by first | with_reducible assumption | omega) (by first | with_reducible assumption | omega) hG6.1 hG6.2.1 hFA9 (Nat.le_refl _)) (hI5) (by first | exact hpl5 | (rw [hm0] at hpl5; exact hpl5)) (hL) (hc5.2.2.2.2.1) (by first | with_reducible assumption | omega) (by first | with_reducible assumption | omega) (rfl)) (csV_108 hts rfl rfl ⟨Nat.le_of_ble_eq_true rfl, Nat.le_of_ble_eq_true rfl⟩) (zPV2 (q0 := 0) (ci := 8) hPc hDc hK3 hXN rfl rfl) rfl rfl hl.1 rfl (lv_room (Nat.le_of_ble_eq_true rfl)) dX10_run_80 ⟨show 4 * cmd md6 ft ≤ 5 * ft + 2 by omega, show smd md6 (fun q => nN (mn q)) ft ≤ smd (fun _ => 1) (fun q => nN (mn q)) ft + 4 * ft + 805 by omega⟩) hS hFc hFc rfl (fun t H locs ht hB hk1 hS => ?_)
                      refine ex21 hB (fun nt66 TX66 TY66 rt66 nw66 WX66 WY66 rw66 nd66 P66 Q66 rd66 g066 g166 g266 g366 g466 g566 g666 g766 AR66 hB0 => ?_)
                      clear hB
                      obtain ⟨hP1, hD1⟩ := hB0
                      rw [ht] at hP1
                      obtain ⟨hP, hD⟩ := znP (W2 := [_, _, _, (oc6 tg (.ref tx) (.ref ty) (nI nt66) rt66), (oa tx cI 3 TX66), (oa ty cI 3 TY66), (oc6 wy (.ref wx) (.ref wz) (nI nw66) rw66), (oa wx cI 2 WX66), (oa wz cI 2 WY66), (oc6 dr (.ref dx) (.ref dy) (nI nd66) rd66), (oa dx cI cd P66), (oa dy cI cd Q66), (oc0 br g066 g166 g266 g366), (oc0 bo g466 g566 g666 g766), (oa aa cI 40 AR66), _, _, _, _, _, _, _, _, _, _]) hP hD hk1 hFc hP1 hD1 zl_66 zl_67 zl_67 zl_66 (by decide +kernel) rfl rfl rfl rfl rfl
                      clear hk1 hPc hDc hFc hP1 hD1 ht
                      refine lv_iadd hx hb dX10_run_83 ?_
                      refine zz_i (v := nI (tc6 + 0)) (nI_add tc6 0) ?_
                      refine lv_istore_n (lv' := [(2, .int (nI (tc6 + 0))), (6, .ref (fe g5)), (5, .int (nI g5)), (4, .int (nI tc5)), (3, .int (nI ps5)), (0, .ref x), (1, .int lim)]) hx hb dX10_run_84 rfl hl (Nat.le_of_ble_eq_true rfl) rfl (fun ls hl => ?_)
                      obtain ⟨hP, hD⟩ := pl_bk (X := [_, _, _, _, _, _, _, _, _, _, _, _, _, _, _, _, _]) hT_1 hP rfl hc9_1 hD0_1 rfl
                      obtain ⟨e2, e3, e4, e5, e6⟩ := plN_z hm0 hpl5
                      rw [e2, e3, e4] at hrP6
                      have hJ7 := hJ6
                      refine lv_iinc (v := nI (g5 + 1)) (lv' := [(5, .int (nI (g5 + 1))), (2, .int (nI (tc6 + 0))), (6, .ref (fe g5)), (4, .int (nI tc5)), (3, .int (nI ps5)), (0, .ref x), (1, .int lim)]) hx hb dX10_run_85 hl (k := 2) rfl (nI_add g5 1) (Nat.le_of_ble_eq_true rfl) rfl (fun ls hl => ?_)
                      refine lv_goto (tgt := 27) hx hb dX10_run_88 rfl ?_
                      refine W.widen (k := 4 * cmd md6 ft) (n := smd md6 (fun q => nN (mn q)) ft) (by omega) (by omega) ?_
                      exact ih_27 (g5 + 1) (tc6 + 0) t6 L6 f6 own6 nw6 md6 fm6 gh6 mnk cxk cyk nt66 TX66 TY66 rt66 nw66 WX66 WY66 rw66 nd66 P66 Q66 rd66 g066 g166 g266 g366 g466 g566 g666 g766 AR66 H locs ls (by first | with_reducible assumption | omega) (by first | with_reducible assumption | omega) (hJ7) (hrP6) (by first | with_reducible assumption | omega) hP hD hS (lv_sub hl [0, 3, 4, 1, 5, 6] rfl)
                  · skip
                    obtain ⟨n5, hpl5⟩ := hr15.1 ⟨hlv, by omega, by omega⟩
                    have hI5 := okA_th hok6 hlv hbd9
                    have hpe5 := plN_end _ _ _ _ _ _ _ _ _ hI5.1 hpl5
                    have hok7 := okA_s hok6 hlv hbd9 hpl5
                    refine ex13 (sh_fc hG6.1 hG6.2.1 (Nat.le_refl _) (show g5 < ft by omega) hlv.2.2) (fun lo5 lx5 ly5 ln5 LX5 LY5 we5 r5 rx5 ry5 cap5 X5 Y5 hc5 => ?_)
                    rw [((hM6 g5 (by omega)).1 hm6).1, hm6] at hc5
                    have hc5 := fc_0 hc5
                    have hmnq0 := hmn6 g5 hm6
                    have hmnN0 : nN (mnk g5) = nN (mn g5) := (by rw [hmnq0])
                    have hcu : cmd md6 ft + 1 ≤ ft := (by have h9 := cmd_le (upN md6 g5 1) ft; rw [cmd_s ft (by omega), if_pos hm6] at h9; exact h9)
                    have hsu : smd md6 (fun q => nN (mn q)) ft + (2 * nN (mn g5) + 10) ≤ smd (fun _ => 1) (fun q => nN (mn q)) ft := (by have h9 := smd_le (upN md6 g5 1) (fun q => nN (mn q)) ft; rw [smd_s ft (by omega), if_pos hm6] at h9; exact h9)
                    have hb5 := hc5.2.2.1
                    have hbd := hc5.2.2.2.2.2 hbd9
                    have hn40 := hI5.1.2.1
                    have hat9 := lo_at hO6 (Nat.le_refl _) (show g5 < ft by omega) hc5.1.1 hc5.1.2.2.2 (by have := hc5.2.1; omega) hc5.1.2.1 hb5.2.2
                    have hds9 := dsR_cg hc5.2.2.2.2.1 (mSm_ds (by omega) (hok6 g5 hlv).2)
                    have hc9_1 : inPl L6 f6 [(oc1 (fe g5) (rk g5) (wd g5) (tw g5) (pa g5) (pb g5) (.ref lo5) (.ref (nw6 g5)) .null), (oc4 (nw6 g5) (kd g5) (st g5) (.ref r5) (gb g5) (it g5) (nI we5)), (oc6 r5 (.ref rx5) (.ref ry5) (nI (nN (mnk g5))) (rgK (kd g5).toInt)), (oa rx5 cI cap5 X5), (oa ry5 cI cap5 Y5), (oc6 lo5 (.ref lx5) (.ref ly5) (nI ln5) 0), (oa lx5 cI (cl g5) LX5), (oa ly5 cI (cl g5) LY5)] := ⟨ce_pl hc5.1.1, ce_pl hc5.1.2.1, ce_pl hc5.1.2.2.1.1, ce_pl hc5.1.2.2.1.2.1, ce_pl hc5.1.2.2.1.2.2.1, ce_pl hc5.1.2.2.2.1, ce_pl hc5.1.2.2.2.2.1, ce_pl hc5.1.2.2.2.2.2.1, trivial⟩
                    have hD0_1 := hD
                    obtain ⟨T_1, hT_1, hP, hD⟩ := pl_oT hP hD hc9_1 (pw8 hc5 (by omega))
                    obtain ⟨hP, hD⟩ := zre (W2 := ([_, _, _, _, _, _, _, _, _, _, _, _, _, _, _, _, _, _, _, _, _, _, _, _, _] ++ va_pl T_1 f6)) hP hD rfl
                    obtain ⟨hPc, hDc, hFc, hI1⟩ := zi_sub (wc := [_, _]) hP hD hS hA [15, 16] rfl rfl
                    refine zcall (st1 := [.ref (fe g5)]) (va_runV (As := [.int (nI g5)]) (rest := []) ⟨hx, hb, hml, hown, hts⟩ (k_Sheet_find l dC dI cI cZ cF H.size sh fa ft FA g5 (fe g5) (by first | with_reducible assumption | omega) (by first | with_reducible assumption | omega) (by first | exact hFA2 | exact hFA9 g5 (by first | with_reducible assumption | omega))) (csV_94 hts rfl rfl ⟨Nat.le_of_ble_eq_true rfl, Nat.le_of_ble_eq_true rfl⟩) (zPV2 (q0 := 0) (ci := 7) hPc hDc hK3 hXN rfl rfl) rfl rfl hl.1 rfl (lv_room (Nat.le_of_ble_eq_true rfl)) dX10_run_45 ⟨show 4 * cmd md6 ft ≤ 5 * ft + 2 by omega, show smd md6 (fun q => nN (mn q)) ft ≤ smd (fun _ => 1) (fun q => nN (mn q)) ft + 4 * ft + 805 by omega⟩) hS hFc hFc rfl (fun t H locs ht hB hk1 hS => ?_)
                    obtain ⟨hP1, hD1⟩ := hB
                    rw [ht] at hP1
                    replace hP := z0 hP hD hk1 hP1 hI1
                    clear hk1 hPc hDc hFc hP1 hD1 ht hI1
                    refine lv_astore (lv' := [(6, .ref (fe g5)), (5, .int (nI g5)), (4, .int (nI tc5)), (3, .int (nI ps5)), (2, .int (nI tc6)), (0, .ref x), (1, .int lim)]) hx hb dX10_run_48 hl (Nat.le_of_ble_eq_true rfl) rfl (fun ls hl => ?_)
                    refine lv_aload hx hb dX10_run_50 (lv_at hl 0 rfl) ?_
                    refine lv_ifnull hx hb dX10_run_52 ?_
                    refine lv_aload hx hb dX10_run_55 (lv_at hl 0 rfl) ?_
                    obtain ⟨hPc, hDc, hFc, hI1⟩ := zi_sub (wc := [_, _]) hP hD hS hA [17, 18] rfl rfl
                    refine zcall (st1 := [.int (pI (1 ≤ (kd g5).toInt ∧ (kd g5).toInt ≤ 5))]) (va_runV (As := []) (rest := []) ⟨hx, hb, hml, hown, hts⟩ (k_Feature_bends_r l dC dI cI cZ cF H.size (fe g5) lo5 (rk g5) (wd g5) (tw g5) (pa g5) (pb g5) (nw6 g5) (kd g5) (st g5) (gb g5) (it g5) (nI we5) r5 ) (csV_97 hts rfl rfl ⟨Nat.le_of_ble_eq_true rfl, Nat.le_of_ble_eq_true rfl⟩) (zPV2 (q0 := 0) (ci := 1) hPc hDc hK3 hXN rfl rfl) rfl rfl hl.1 rfl (lv_room (Nat.le_of_ble_eq_true rfl)) dX10_run_57 ⟨show 4 * cmd md6 ft ≤ 5 * ft + 2 by omega, show smd md6 (fun q => nN (mn q)) ft ≤ smd (fun _ => 1) (fun q => nN (mn q)) ft + 4 * ft + 805 by omega⟩) hS hFc hFc rfl (fun t H locs ht hB hk1 hS => ?_)
                    obtain ⟨hP1, hD1⟩ := hB
                    rw [ht] at hP1
                    replace hP := z0 hP hD hk1 hP1 hI1
                    clear hk1 hPc hDc hFc hP1 hD1 ht hI1
                    refine lv_if_eq (tgt := 85) hx hb dX10_run_60 rfl (fun c_15 => ?_) (fun c_15 => ?_)
                    · have c_15 : ¬ (1 ≤ (kd g5).toInt ∧ (kd g5).toInt ≤ 5) := zp_0 c_15
                      exfalso; exact absurd hbd9 (by first | with_reducible assumption | assumption)
                    · have c_15 : 1 ≤ (kd g5).toInt ∧ (kd g5).toInt ≤ 5 := zp_1 c_15
                      refine lv_aload_n hx hb dX10_run_63 rfl (lv_at hl 5 rfl) ?_
                      refine va_get (D := (dC, dI)) (ci := 8) (v := .ref sh) (C := RX10) (T := TX10) (N := 13) hx hb hts inX10 hown hK hP 0 rfl rfl 0 (Nat.le_of_ble_eq_true rfl) (hts _ mw_309) (fun _ h9 => h9) rfl dX10_run_64 ?_
                      refine lv_iload hx hb dX10_run_67 (lv_at hl 1 rfl) ?_
                      obtain ⟨hPc, hDc, hFc, hI1⟩ := zi_sub (wc := [_, _, _, _]) hP hD hS hA [15, 16, 17, 18] (by decide +kernel) rfl
                      refine zcall (st1 := [.ref r5]) (va_runV (As := [.int (nI g5)]) (rest := []) ⟨hx, hb, hml, hown, hts⟩ (k_Sheet_rowThere_yv l dC dI cI cZ cF H.size sh fa ft FA g5 (fe g5) lo5 (rk g5) (wd g5) (tw g5) (pa g5) (pb g5) (nw6 g5) (kd g5) (st g5) (gb g5) (it g5) (nI we5) r5 (.null) (by first | with_reducible assumption | omega) (by first | with_reducible assumption | omega) (by first | exact hFA2 | exact hFA9 g5 (by first | with_reducible assumption | omega)) (by first | exact hlv.2.1 | omega)) (csV_144 hts rfl rfl ⟨Nat.le_of_ble_eq_true rfl, Nat.le_of_ble_eq_true rfl⟩) (zPV2 (q0 := 0) (ci := 7) hPc hDc hK3 hXN rfl rfl) rfl rfl hl.1 rfl (lv_room (Nat.le_of_ble_eq_true rfl)) dX10_run_69 ⟨show 4 * cmd md6 ft ≤ 5 * ft + 2 by omega, show smd md6 (fun q => nN (mn q)) ft ≤ smd (fun _ => 1) (fun q => nN (mn q)) ft + 4 * ft + 805 by omega⟩) hS hFc hFc rfl (fun t H locs ht hB hk1 hS => ?_)
                      obtain ⟨hP1, hD1⟩ := hB
                      rw [ht] at hP1
                      replace hP := z0 hP hD hk1 hP1 hI1
                      clear hk1 hPc hDc hFc hP1 hD1 ht hI1
                      refine lv_ifnull hx hb dX10_run_72 ?_
                      refine lv_iload_n hx hb dX10_run_75 rfl (lv_at hl 4 rfl) ?_
                      refine lv_aload_n hx hb dX10_run_76 rfl (lv_at hl 5 rfl) ?_
                      refine lv_aload hx hb dX10_run_77 (lv_at hl 0 rfl) ?_
                      refine lv_iload_n hx hb dX10_run_79 rfl (lv_at hl 6 rfl) ?_
                      obtain ⟨hPc, hDc, hFc⟩ := zo_part (cx := [_, _, _, _, _, _, _, _, _, _, _, _, _, _, _, _, _, _, _, _, _, _, _, _]) hP hD hS hA [0, 2, 3, 4, 5, 6, 7, 8, 9, 10, 11, 12, 13, 14, 15, 16, 17, 18, 19, 20, 21, 22, 23, 24] (by decide +kernel) rfl
                      refine zcall (st1 := [.int (nI m5), .int (nI tc6)]) (va_runV (As := [.ref (fe g5), .int lim]) (rest := [.int (nI tc6)]) ⟨hx, hb, hml, hown, hts⟩ (k_thin_y l dC dI cI cZ cF H.size x ro bq bp dq dp lv sl (nI dn) sd ul su lw dr tg wy br bo aa tx ty nt19 TX19 TY19 rt19 wx wz nw19 WX19 WY19 rw19 dx dy nd19 cd P19 Q19 rd19 d59 d69 d79 d89 e59 e69 e79 e89 AR19 sh fa ft FA (fe g5) lo5 (rk g5) (wd g5) (tw g5) (pa g5) (pb g5) (nw6 g5) (gb g5) (it g5) r5 rx5 ry5 (nN (mnk g5)) cap5 X5 Y5 ln5 (cl g5) lx5 ly5 LX5 LY5 g5 we5 LM m5 n5 T_1 f6 kd st tn mnk cxk cyk mn6 cx6 cy6 lim (by first | with_reducible assumption | omega) (by first | with_reducible assumption | omega) (hFA9 g5 (by first | with_reducible assumption | omega)) (by rw [← hT_1]; exact fc_vw hc5 (by first | with_reducible assumption | omega) (by first | with_reducible assumption | omega) hG6.1 hG6.2.1 hFA9 (Nat.le_refl _)) (hI5) (by first | exact hpl5 | (rw [hm0] at hpl5; exact hpl5)) (hL) (hc5.2.2.2.2.1) (by first | with_reducible assumption | omega) (by first | with_reducible assumption | omega) (by first | with_reducible assumption | omega) (hds9) (hat9.2) (by first | with_reducible assumption | assumption)) (csV_108 hts rfl rfl ⟨Nat.le_of_ble_eq_true rfl, Nat.le_of_ble_eq_true rfl⟩) (zPV2 (q0 := 0) (ci := 8) hPc hDc hK3 hXN rfl rfl) rfl rfl hl.1 rfl (lv_room (Nat.le_of_ble_eq_true rfl)) dX10_run_80 ⟨show (4 * cmd md6 ft + 4) ≤ 5 * ft + 2 by omega, show (smd md6 (fun q => nN (mn q)) ft + (2 * (nN (mnk g5)) + 10)) ≤ smd (fun _ => 1) (fun q => nN (mn q)) ft + 4 * ft + 805 by omega⟩) hS hFc hFc rfl (fun t H locs ht hB hk1 hS => ?_)
                      refine ex30 hB (fun q7 w7 wx7 wy7 nt66 TX66 TY66 rt66 nw66 WX66 WY66 rw66 nd66 P66 Q66 rd66 g066 g166 g266 g366 g466 g566 g666 g766 AR66 X7 Y7 LX7 LY7 lc7 hB0 => ?_)
                      clear hB
                      obtain ⟨hXo7, hlc7, hls7, hwl7, hP1, hD1⟩ := hB0
                      rw [ht] at hP1
                      obtain ⟨hP, hD⟩ := znP (W2 := [_, (oc8 x (.ref sh) (.ref lw) (.ref ro) (.ref bq) (.ref bp) (.ref dq) (.ref dp) (.ref lv) (.ref sl) (nI dn) sd ul su), (oc3 lw (.ref dr) (.ref tg) (.ref wy) (.ref br) (.ref bo) (.ref aa)), (oc6 tg (.ref tx) (.ref ty) (nI nt66) rt66), (oa tx cI 3 TX66), (oa ty cI 3 TY66), (oc6 wy (.ref wx) (.ref wz) (nI nw66) rw66), (oa wx cI 2 WX66), (oa wz cI 2 WY66), (oc6 dr (.ref dx) (.ref dy) (nI nd66) rd66), (oa dx cI cd P66), (oa dy cI cd Q66), (oc0 br g066 g166 g266 g366), (oc0 bo g466 g566 g666 g766), (oa aa cI 40 AR66), (oc7 sh (.ref fa) (nI ft)), (oq fa cF 200 FA), (oc1 (fe g5) (rk g5) (wd g5) (tw g5) (pa g5) (pb g5) (.ref lo5) (.ref q7) (.ref (nw6 g5))), (oc4 (nw6 g5) (kd g5) (st g5) (.ref r5) (gb g5) (it g5) (nI we5)), (oc6 r5 (.ref rx5) (.ref ry5) (nI (nN (mnk g5))) (rgK (kd g5).toInt)), (oa rx5 cI cap5 X5), (oa ry5 cI cap5 Y5), (oc4 q7 (kd g5) (st g5) (.ref w7) (gb g5) (it g5) (nI (we5 + m5))), (oc6 w7 (.ref wx7) (.ref wy7) (nI n5) (rgK (kd g5).toInt)), (oa wx7 cI (nN (mnk g5)) X7), (oa wy7 cI (nN (mnk g5)) Y7), (oc6 lo5 (.ref lx5) (.ref ly5) (nI lc7) 0), (oa lx5 cI (cl g5) LX7), (oa ly5 cI (cl g5) LY7)]) hP hD hk1 hFc hP1 hD1 zl_61 [false, true] zl_62 zl_63 (by decide +kernel) rfl rfl rfl rfl rfl
                      clear hk1 hPc hDc hFc hP1 hD1 ht
                      refine lv_iadd hx hb dX10_run_83 ?_
                      refine zz_i (v := nI (tc6 + m5)) (nI_add tc6 m5) ?_
                      refine lv_istore_n (lv' := [(2, .int (nI (tc6 + m5))), (6, .ref (fe g5)), (5, .int (nI g5)), (4, .int (nI tc5)), (3, .int (nI ps5)), (0, .ref x), (1, .int lim)]) hx hb dX10_run_84 rfl hl (Nat.le_of_ble_eq_true rfl) rfl (fun ls hl => ?_)
                      obtain ⟨hP, hD⟩ := zq_part (cx := [_, _, _, _, _, _, _, _, _, _, _, _, _, _, _, _, _, _, _, _, _, _, _, _, _, _, _, _, _]) hP hD [0, 1, 2, 3, 4, 5, 6, 7, 8, 9, 10, 11, 12, 13, 14, 15, 16, 17, 18, 19, 20, 21, 26, 27, 28, 22, 23, 24, 25] rfl rfl
                      obtain ⟨Lp1, fp1, hP, hD, hpin_1⟩ := pl_pn (X := [_, _, _, _, _, _, _, _, _, _, _, _, _, _, _, _, _]) (old := [_, _, _, _, _, _, _, _]) (new := [_, _, _, _]) (cs1 := [_, _, _, _, _, _, _, _, _, _, _, _]) (L := L6) (cs := [(oc1 (fe g5) (rk g5) (wd g5) (tw g5) (pa g5) (pb g5) (.ref lo5) (.ref (nw6 g5)) .null), (oc4 (nw6 g5) (kd g5) (st g5) (.ref r5) (gb g5) (it g5) (nI we5)), (oc6 r5 (.ref rx5) (.ref ry5) (nI (nN (mnk g5))) (rgK (kd g5).toInt)), (oa rx5 cI cap5 X5), (oa ry5 cI cap5 Y5), (oc6 lo5 (.ref lx5) (.ref ly5) (nI ln5) 0), (oa lx5 cI (cl g5) LX5), (oa ly5 cI (cl g5) LY5)]) hT_1 hP hD rfl rfl rfl
                      obtain ⟨hfr_1, hkp_1, hce_1, hsx_1, hpw_1⟩ := id hpin_1
                      obtain ⟨gh7, hgh7⟩ : ∃ g9 : Nat → Nat → Int32, g9 = gU gh6 g5 (we5 + m5) LX7 LY7 := ⟨_, rfl⟩
                      have hgE7 : gE LX7 LY7 (we5 + m5) gh7 g5 := (by rw [hgh7]; exact gE_U (by omega))
                      have hgo7 : ∀ p, p ≠ g5 → ∀ j, gh7 j p = gh6 j p := fun p hp j => by rw [hgh7]; exact gU_o hp j
                      obtain ⟨own7, nw7, md7, fm7, hG7, hM7, hmd7, hO7⟩ := M_resh (kd1 := kd) (st1 := st) (gb1 := gb) (it1 := it) (mn1 := mn6) (cx1 := cx6) (cy1 := cy6) hG6 hM6 hm6 (by omega) (by rw [← hft9]; omega) (by have := hlv.2.1; omega) (by have := hlv.2.1; omega) hlv.2.2 hc5 ⟨rfl, rfl, rfl, rfl⟩ hpin_1 (fun p hp => ⟨rfl, rfl, rfl, rfl, hpe5.2.2.1 p hp, fun k hk => hpe5.2.2.2.1 (40 * p + k) (by omega)⟩) rfl rfl rfl rfl rfl (by rw [hpe5.1.1]; exact nN_n9 (by have := hpe5.1.2.1; omega)) hXo7 (by omega) hlc7 (fun g => ⟨g, by omega⟩) hO6 hls7.1 ⟨by omega, hwl7⟩ hgE7 hgo7
                      have hgr7 := gR_s hgr6 ⟨hlv, hbd9⟩ (by rw [show nN (mn6 g5) = n5 from by rw [hpe5.1.1]; exact nN_n9 (by have := hpe5.1.2.1; omega)]; exact gL_i hls7 hat9.1 hgE7 (by omega)) hgo7 hpe5.2.2.1 (fun p hp => (hok6 p hp).1.2.1.2) (fun p hp k hk => hpe5.2.2.2.1 (40 * p + k) (by omega))
                      have hcl7 := cmd_le md7 ft
                      have hsl7 := smd_le md7 (fun q => nN (mn q)) ft
                      have hcm7 := cmd_s (md := md6) (q := g5) ft (by omega)
                      have hsm7 := smd_s (md := md6) (n0 := (fun q => nN (mn q))) (q := g5) ft (by omega)
                      rw [← hmd7, if_pos hm6] at hcm7 hsm7
                      have hmnq := hmn6 g5 hm6
                      have hmnN : nN (mnk g5) = nN (mn g5) := (by rw [hmnq])
                      have hsm7 : smd md7 (fun q => nN (mn q)) ft = smd md6 (fun q => nN (mn q)) ft + (2 * nN (mn g5) + 10) := hsm7
                      have hJ7 : (shG cI cO Lp1 fp1 e0 FA ea T own7 fe cl la nw7 md7 sp fm7 SA bs dn dn ft ft FT V VX VY tn rk wd tw pa pb wh of9 we kd st gb it mn6 cx6 cy6) ∧ (mdA dn ft FT la nw7 md7 fm7 V kd st gb it) ∧ (∀ q, md7 q ≤ 1) ∧ okA ft st tn kd mn6 cx6 cy6 ∧ (∀ q, md7 q = 0 → mn6 q = mn q) ∧ (loG cI Lp1 fp1 own7 fe nw7 md7 la bs dn dn ft ft FT V gh7) ∧ gR (V dn) gh7 ft st tn kd mn cx cy mn6 cx6 cy6 := ⟨hG7, hM7, fun q => by rw [hmd7]; by_cases e : q = g5; (rw [e, upN_at]; decide); (rw [upN_o e]; exact hmd6 q), hok7, fun q hq => by rw [hmd7] at hq; by_cases e : q = g5; (rw [e, upN_at] at hq; exact absurd hq (by decide)); (rw [upN_o e] at hq; rw [hpe5.2.2.1 q e]; exact hmn6 q hq), hO7, hgr7⟩
                      refine lv_iinc (v := nI (g5 + 1)) (lv' := [(5, .int (nI (g5 + 1))), (2, .int (nI (tc6 + m5))), (6, .ref (fe g5)), (4, .int (nI tc5)), (3, .int (nI ps5)), (0, .ref x), (1, .int lim)]) hx hb dX10_run_85 hl (k := 2) rfl (nI_add g5 1) (Nat.le_of_ble_eq_true rfl) rfl (fun ls hl => ?_)
                      refine lv_goto (tgt := 27) hx hb dX10_run_88 rfl ?_
                      obtain ⟨hP, hD⟩ := zq_part (cx := [_, _, _, _, _, _, _, _, _, _, _, _, _, _, _, _, _]) hP hD [1, 0, 2, 3, 4, 5, 6, 7, 8, 9, 10, 11, 12, 13, 14, 15, 16] rfl rfl
                      refine W.widen (k := 4 * cmd md7 ft) (n := smd md7 (fun q => nN (mn q)) ft) (by omega) (by omega) ?_
                      exact ih_27 (g5 + 1) (tc6 + m5) t6 Lp1 fp1 own7 nw7 md7 fm7 gh7 mn6 cx6 cy6 nt66 TX66 TY66 rt66 nw66 WX66 WY66 rw66 nd66 P66 Q66 rd66 g066 g166 g266 g366 g466 g566 g666 g766 AR66 H locs ls (by first | with_reducible assumption | omega) (by first | with_reducible assumption | omega) (hJ7) (hrP6) (by first | with_reducible assumption | omega) hP hD hS (lv_sub hl [0, 3, 4, 1, 5, 6] rfl)
                  · skip
                    obtain ⟨n5, hpl5⟩ := hr15.1 ⟨hlv, by omega, by omega⟩
                    have hI5 := okA_th hok6 hlv hbd9
                    have hpe5 := plN_end _ _ _ _ _ _ _ _ _ hI5.1 hpl5
                    have hok7 := okA_s hok6 hlv hbd9 hpl5
                    refine ex13 (sh_fc hG6.1 hG6.2.1 (Nat.le_refl _) (show g5 < ft by omega) hlv.2.2) (fun lo5 lx5 ly5 ln5 LX5 LY5 we5 r5 rx5 ry5 cap5 X5 Y5 hc5 => ?_)
                    rw [((hM6 g5 (by omega)).2 (by omega)).1] at hc5
                    have hc5 := fc_1 hm6 hc5
                    have hb5 := hc5.2.2.1
                    have hbd := hc5.2.2.2.2.2 hbd9
                    have hn40 := hI5.1.2.1
                    have hat9 := lo_at hO6 (Nat.le_refl _) (show g5 < ft by omega) hc5.1.1 hc5.1.2.2.2 (by have := hc5.2.1; omega) hc5.1.2.1 hb5.2.2
                    have hds9 := dsR_cg hc5.2.2.2.2.1 (mSm_ds (by omega) (hok6 g5 hlv).2)
                    have hc9_1 : inPl L6 f6 [(oc1 (fe g5) (rk g5) (wd g5) (tw g5) (pa g5) (pb g5) (.ref lo5) (.ref (nw6 g5)) (.ref (la dn g5))), (oc4 (nw6 g5) (kd g5) (st g5) (.ref r5) (gb g5) (it g5) (nI we5)), (oc6 r5 (.ref rx5) (.ref ry5) (nI (nN (mnk g5))) (rgK (kd g5).toInt)), (oa rx5 cI cap5 X5), (oa ry5 cI cap5 Y5), (oc6 lo5 (.ref lx5) (.ref ly5) (nI ln5) 0), (oa lx5 cI (cl g5) LX5), (oa ly5 cI (cl g5) LY5)] := ⟨ce_pl hc5.1.1, ce_pl hc5.1.2.1, ce_pl hc5.1.2.2.1.1, ce_pl hc5.1.2.2.1.2.1, ce_pl hc5.1.2.2.1.2.2.1, ce_pl hc5.1.2.2.2.1, ce_pl hc5.1.2.2.2.2.1, ce_pl hc5.1.2.2.2.2.2.1, trivial⟩
                    have hD0_1 := hD
                    obtain ⟨T_1, hT_1, hP, hD⟩ := pl_oT hP hD hc9_1 (pw8 hc5 (by omega))
                    obtain ⟨hP, hD⟩ := zre (W2 := ([_, _, _, _, _, _, _, _, _, _, _, _, _, _, _, _, _, _, _, _, _, _, _, _, _] ++ va_pl T_1 f6)) hP hD rfl
                    obtain ⟨hPc, hDc, hFc, hI1⟩ := zi_sub (wc := [_, _]) hP hD hS hA [15, 16] rfl rfl
                    refine zcall (st1 := [.ref (fe g5)]) (va_runV (As := [.int (nI g5)]) (rest := []) ⟨hx, hb, hml, hown, hts⟩ (k_Sheet_find l dC dI cI cZ cF H.size sh fa ft FA g5 (fe g5) (by first | with_reducible assumption | omega) (by first | with_reducible assumption | omega) (by first | exact hFA2 | exact hFA9 g5 (by first | with_reducible assumption | omega))) (csV_94 hts rfl rfl ⟨Nat.le_of_ble_eq_true rfl, Nat.le_of_ble_eq_true rfl⟩) (zPV2 (q0 := 0) (ci := 7) hPc hDc hK3 hXN rfl rfl) rfl rfl hl.1 rfl (lv_room (Nat.le_of_ble_eq_true rfl)) dX10_run_45 ⟨show 4 * cmd md6 ft ≤ 5 * ft + 2 by omega, show smd md6 (fun q => nN (mn q)) ft ≤ smd (fun _ => 1) (fun q => nN (mn q)) ft + 4 * ft + 805 by omega⟩) hS hFc hFc rfl (fun t H locs ht hB hk1 hS => ?_)
                    obtain ⟨hP1, hD1⟩ := hB
                    rw [ht] at hP1
                    replace hP := z0 hP hD hk1 hP1 hI1
                    clear hk1 hPc hDc hFc hP1 hD1 ht hI1
                    refine lv_astore (lv' := [(6, .ref (fe g5)), (5, .int (nI g5)), (4, .int (nI tc5)), (3, .int (nI ps5)), (2, .int (nI tc6)), (0, .ref x), (1, .int lim)]) hx hb dX10_run_48 hl (Nat.le_of_ble_eq_true rfl) rfl (fun ls hl => ?_)
                    refine lv_aload hx hb dX10_run_50 (lv_at hl 0 rfl) ?_
                    refine lv_ifnull hx hb dX10_run_52 ?_
                    refine lv_aload hx hb dX10_run_55 (lv_at hl 0 rfl) ?_
                    obtain ⟨hPc, hDc, hFc, hI1⟩ := zi_sub (wc := [_, _]) hP hD hS hA [17, 18] rfl rfl
                    refine zcall (st1 := [.int (pI (1 ≤ (kd g5).toInt ∧ (kd g5).toInt ≤ 5))]) (va_runV (As := []) (rest := []) ⟨hx, hb, hml, hown, hts⟩ (k_Feature_bends_f_r l dC dI cI cZ cF H.size (fe g5) lo5 (rk g5) (wd g5) (tw g5) (pa g5) (pb g5) (nw6 g5) (kd g5) (st g5) (gb g5) (it g5) (nI we5) r5 (la dn g5) ) (csV_97 hts rfl rfl ⟨Nat.le_of_ble_eq_true rfl, Nat.le_of_ble_eq_true rfl⟩) (zPV2 (q0 := 0) (ci := 1) hPc hDc hK3 hXN rfl rfl) rfl rfl hl.1 rfl (lv_room (Nat.le_of_ble_eq_true rfl)) dX10_run_57 ⟨show 4 * cmd md6 ft ≤ 5 * ft + 2 by omega, show smd md6 (fun q => nN (mn q)) ft ≤ smd (fun _ => 1) (fun q => nN (mn q)) ft + 4 * ft + 805 by omega⟩) hS hFc hFc rfl (fun t H locs ht hB hk1 hS => ?_)
                    obtain ⟨hP1, hD1⟩ := hB
                    rw [ht] at hP1
                    replace hP := z0 hP hD hk1 hP1 hI1
                    clear hk1 hPc hDc hFc hP1 hD1 ht hI1
                    refine lv_if_eq (tgt := 85) hx hb dX10_run_60 rfl (fun c_16 => ?_) (fun c_16 => ?_)
                    · have c_16 : ¬ (1 ≤ (kd g5).toInt ∧ (kd g5).toInt ≤ 5) := zp_0 c_16
                      exfalso; exact absurd hbd9 (by first | with_reducible assumption | assumption)
                    · have c_16 : 1 ≤ (kd g5).toInt ∧ (kd g5).toInt ≤ 5 := zp_1 c_16
                      refine lv_aload_n hx hb dX10_run_63 rfl (lv_at hl 5 rfl) ?_
                      refine va_get (D := (dC, dI)) (ci := 8) (v := .ref sh) (C := RX10) (T := TX10) (N := 13) hx hb hts inX10 hown hK hP 0 rfl rfl 0 (Nat.le_of_ble_eq_true rfl) (hts _ mw_309) (fun _ h9 => h9) rfl dX10_run_64 ?_
                      refine lv_iload hx hb dX10_run_67 (lv_at hl 1 rfl) ?_
                      obtain ⟨hPc, hDc, hFc, hI1⟩ := zi_sub (wc := [_, _, _, _]) hP hD hS hA [15, 16, 17, 18] (by decide +kernel) rfl
                      refine zcall (st1 := [.ref r5]) (va_runV (As := [.int (nI g5)]) (rest := []) ⟨hx, hb, hml, hown, hts⟩ (k_Sheet_rowThere_yv l dC dI cI cZ cF H.size sh fa ft FA g5 (fe g5) lo5 (rk g5) (wd g5) (tw g5) (pa g5) (pb g5) (nw6 g5) (kd g5) (st g5) (gb g5) (it g5) (nI we5) r5 (.ref (la dn g5)) (by first | with_reducible assumption | omega) (by first | with_reducible assumption | omega) (by first | exact hFA2 | exact hFA9 g5 (by first | with_reducible assumption | omega)) (by first | exact hlv.2.1 | omega)) (csV_144 hts rfl rfl ⟨Nat.le_of_ble_eq_true rfl, Nat.le_of_ble_eq_true rfl⟩) (zPV2 (q0 := 0) (ci := 7) hPc hDc hK3 hXN rfl rfl) rfl rfl hl.1 rfl (lv_room (Nat.le_of_ble_eq_true rfl)) dX10_run_69 ⟨show 4 * cmd md6 ft ≤ 5 * ft + 2 by omega, show smd md6 (fun q => nN (mn q)) ft ≤ smd (fun _ => 1) (fun q => nN (mn q)) ft + 4 * ft + 805 by omega⟩) hS hFc hFc rfl (fun t H locs ht hB hk1 hS => ?_)
                      obtain ⟨hP1, hD1⟩ := hB
                      rw [ht] at hP1
                      replace hP := z0 hP hD hk1 hP1 hI1
                      clear hk1 hPc hDc hFc hP1 hD1 ht hI1
                      refine lv_ifnull hx hb dX10_run_72 ?_
                      refine lv_iload_n hx hb dX10_run_75 rfl (lv_at hl 4 rfl) ?_
                      refine lv_aload_n hx hb dX10_run_76 rfl (lv_at hl 5 rfl) ?_
                      refine lv_aload hx hb dX10_run_77 (lv_at hl 0 rfl) ?_
                      refine lv_iload_n hx hb dX10_run_79 rfl (lv_at hl 6 rfl) ?_
                      obtain ⟨hPc, hDc, hFc⟩ := zo_part (cx := [_, _, _, _, _, _, _, _, _, _, _, _, _, _, _, _, _, _, _, _, _, _, _, _]) hP hD hS hA [0, 2, 3, 4, 5, 6, 7, 8, 9, 10, 11, 12, 13, 14, 15, 16, 17, 18, 19, 20, 21, 22, 23, 24] (by decide +kernel) rfl
                      refine zcall (st1 := [.int (nI m5), .int (nI tc6)]) (va_runV (As := [.ref (fe g5), .int lim]) (rest := [.int (nI tc6)]) ⟨hx, hb, hml, hown, hts⟩ (k_thin_f l dC dI cI cZ cF H.size x ro bq bp dq dp lv sl (nI dn) sd ul su lw dr tg wy br bo aa tx ty nt19 TX19 TY19 rt19 wx wz nw19 WX19 WY19 rw19 dx dy nd19 cd P19 Q19 rd19 d59 d69 d79 d89 e59 e69 e79 e89 AR19 sh fa ft FA (fe g5) lo5 (rk g5) (wd g5) (tw g5) (pa g5) (pb g5) (nw6 g5) (gb g5) (it g5) r5 rx5 ry5 (nN (mnk g5)) cap5 X5 Y5 ln5 (cl g5) lx5 ly5 LX5 LY5 g5 we5 LM m5 n5 T_1 f6 kd st tn mnk cxk cyk mn6 cx6 cy6 lim (la dn g5) (by first | with_reducible assumption | omega) (by first | with_reducible assumption | omega) (hFA9 g5 (by first | with_reducible assumption | omega)) (by rw [← hT_1]; exact fc_vw hc5 (by first | with_reducible assumption | omega) (by first | with_reducible assumption | omega) hG6.1 hG6.2.1 hFA9 (Nat.le_refl _)) (hI5) (by first | exact hpl5 | (rw [hm0] at hpl5; exact hpl5)) (hL) (hc5.2.2.2.2.1) (by first | with_reducible assumption | omega) (by first | with_reducible assumption | omega) (by first | with_reducible assumption | omega) (hds9) (hat9.2) ((pls_cg hc5.2.2.2.2.1).mpr hI5.1.2.2.1) (hc5.2.1.1)) (csV_108 hts rfl rfl ⟨Nat.le_of_ble_eq_true rfl, Nat.le_of_ble_eq_true rfl⟩) (zPV2 (q0 := 0) (ci := 8) hPc hDc hK3 hXN rfl rfl) rfl rfl hl.1 rfl (lv_room (Nat.le_of_ble_eq_true rfl)) dX10_run_80 ⟨show 4 * cmd md6 ft ≤ 5 * ft + 2 by omega, show smd md6 (fun q => nN (mn q)) ft ≤ smd (fun _ => 1) (fun q => nN (mn q)) ft + 4 * ft + 805 by omega⟩) hS hFc hFc rfl (fun t H locs ht hB hk1 hS => ?_)
                      refine ex26 hB (fun nt66 TX66 TY66 rt66 nw66 WX66 WY66 rw66 nd66 P66 Q66 rd66 g066 g166 g266 g366 g466 g566 g666 g766 AR66 X7 Y7 LX7 LY7 lc7 hB0 => ?_)
                      clear hB
                      obtain ⟨hXo7, hlc7, hls7, hwl7, hP1, hD1⟩ := hB0
                      rw [ht] at hP1
                      obtain ⟨hP, hD⟩ := znP (W2 := [_, _, _, (oc6 tg (.ref tx) (.ref ty) (nI nt66) rt66), (oa tx cI 3 TX66), (oa ty cI 3 TY66), (oc6 wy (.ref wx) (.ref wz) (nI nw66) rw66), (oa wx cI 2 WX66), (oa wz cI 2 WY66), (oc6 dr (.ref dx) (.ref dy) (nI nd66) rd66), (oa dx cI cd P66), (oa dy cI cd Q66), (oc0 br g066 g166 g266 g366), (oc0 bo g466 g566 g666 g766), (oa aa cI 40 AR66), _, _, _, (oc4 (nw6 g5) (kd g5) (st g5) (.ref r5) (gb g5) (it g5) (nI (we5 + m5))), (oc6 r5 (.ref rx5) (.ref ry5) (nI n5) (rgK (kd g5).toInt)), (oa rx5 cI cap5 X7), (oa ry5 cI cap5 Y7), (oc6 lo5 (.ref lx5) (.ref ly5) (nI lc7) 0), (oa lx5 cI (cl g5) LX7), (oa ly5 cI (cl g5) LY7)]) hP hD hk1 hFc hP1 hD1 zl_61 [false, true] zl_124 zl_61 (by decide +kernel) rfl rfl rfl rfl rfl
                      clear hk1 hPc hDc hFc hP1 hD1 ht
                      refine lv_iadd hx hb dX10_run_83 ?_
                      refine zz_i (v := nI (tc6 + m5)) (nI_add tc6 m5) ?_
                      refine lv_istore_n (lv' := [(2, .int (nI (tc6 + m5))), (6, .ref (fe g5)), (5, .int (nI g5)), (4, .int (nI tc5)), (3, .int (nI ps5)), (0, .ref x), (1, .int lim)]) hx hb dX10_run_84 rfl hl (Nat.le_of_ble_eq_true rfl) rfl (fun ls hl => ?_)
                      obtain ⟨Lp1, fp1, hP, hD, hpin_1⟩ := pl_pn (X := [_, _, _, _, _, _, _, _, _, _, _, _, _, _, _, _, _]) (old := [_, _, _, _, _, _, _, _]) (new := []) (cs1 := [_, _, _, _, _, _, _, _]) (L := L6) (cs := [(oc1 (fe g5) (rk g5) (wd g5) (tw g5) (pa g5) (pb g5) (.ref lo5) (.ref (nw6 g5)) (.ref (la dn g5))), (oc4 (nw6 g5) (kd g5) (st g5) (.ref r5) (gb g5) (it g5) (nI we5)), (oc6 r5 (.ref rx5) (.ref ry5) (nI (nN (mnk g5))) (rgK (kd g5).toInt)), (oa rx5 cI cap5 X5), (oa ry5 cI cap5 Y5), (oc6 lo5 (.ref lx5) (.ref ly5) (nI ln5) 0), (oa lx5 cI (cl g5) LX5), (oa ly5 cI (cl g5) LY5)]) hT_1 hP hD rfl rfl rfl
                      obtain ⟨hfr_1, hkp_1, hce_1, hsx_1, hpw_1⟩ := id hpin_1
                      obtain ⟨gh7, hgh7⟩ : ∃ g9 : Nat → Nat → Int32, g9 = gU gh6 g5 (we5 + m5) LX7 LY7 := ⟨_, rfl⟩
                      have hgE7 : gE LX7 LY7 (we5 + m5) gh7 g5 := (by rw [hgh7]; exact gE_U (by omega))
                      have hgo7 : ∀ p, p ≠ g5 → ∀ j, gh7 j p = gh6 j p := fun p hp j => by rw [hgh7]; exact gU_o hp j
                      obtain ⟨own7, nw7, md7, fm7, hG7, hM7, hmd7, hO7⟩ := M_thf (mn1 := mn6) (cx1 := cx6) (cy1 := cy6) hG6 hM6 hm6 (by omega) hlv.2.2 hbd9 hc5 hpin_1 (fun p hp => ⟨rfl, rfl, rfl, rfl, hpe5.2.2.1 p hp, fun k hk => hpe5.2.2.2.1 (40 * p + k) (by omega)⟩) (by rw [hpe5.1.1]; exact nN_n9 (by have := hpe5.1.2.1; omega)) hXo7 (by omega) hlc7 hO6 hls7.1 ⟨by omega, hwl7⟩ hgE7 hgo7
                      have hgr7 := gR_s hgr6 ⟨hlv, hbd9⟩ (by rw [show nN (mn6 g5) = n5 from by rw [hpe5.1.1]; exact nN_n9 (by have := hpe5.1.2.1; omega)]; exact gL_i hls7 hat9.1 hgE7 (by omega)) hgo7 hpe5.2.2.1 (fun p hp => (hok6 p hp).1.2.1.2) (fun p hp k hk => hpe5.2.2.2.1 (40 * p + k) (by omega))
                      have hcl7 := cmd_le md7 ft
                      have hsl7 := smd_le md7 (fun q => nN (mn q)) ft
                      have hcm7 := cmd_s (md := md6) (q := g5) ft (by omega)
                      have hsm7 := smd_s (md := md6) (n0 := (fun q => nN (mn q))) (q := g5) ft (by omega)
                      rw [← hmd7, if_neg (by omega)] at hcm7 hsm7
                      have hJ7 : (shG cI cO Lp1 fp1 e0 FA ea T own7 fe cl la nw7 md7 sp fm7 SA bs dn dn ft ft FT V VX VY tn rk wd tw pa pb wh of9 we kd st gb it mn6 cx6 cy6) ∧ (mdA dn ft FT la nw7 md7 fm7 V kd st gb it) ∧ (∀ q, md7 q ≤ 1) ∧ okA ft st tn kd mn6 cx6 cy6 ∧ (∀ q, md7 q = 0 → mn6 q = mn q) ∧ (loG cI Lp1 fp1 own7 fe nw7 md7 la bs dn dn ft ft FT V gh7) ∧ gR (V dn) gh7 ft st tn kd mn cx cy mn6 cx6 cy6 := ⟨hG7, hM7, fun q => by rw [hmd7]; by_cases e : q = g5; (rw [e, upN_at]; decide); (rw [upN_o e]; exact hmd6 q), hok7, fun q hq => by rw [hmd7] at hq; by_cases e : q = g5; (rw [e, upN_at] at hq; exact absurd hq (by decide)); (rw [upN_o e] at hq; rw [hpe5.2.2.1 q e]; exact hmn6 q hq), hO7, hgr7⟩
                      refine lv_iinc (v := nI (g5 + 1)) (lv' := [(5, .int (nI (g5 + 1))), (2, .int (nI (tc6 + m5))), (6, .ref (fe g5)), (4, .int (nI tc5)), (3, .int (nI ps5)), (0, .ref x), (1, .int lim)]) hx hb dX10_run_85 hl (k := 2) rfl (nI_add g5 1) (Nat.le_of_ble_eq_true rfl) rfl (fun ls hl => ?_)
                      refine lv_goto (tgt := 27) hx hb dX10_run_88 rfl ?_
                      refine W.widen (k := 4 * cmd md7 ft) (n := smd md7 (fun q => nN (mn q)) ft) (by omega) (by omega) ?_
                      exact ih_27 (g5 + 1) (tc6 + m5) t6 Lp1 fp1 own7 nw7 md7 fm7 gh7 mn6 cx6 cy6 nt66 TX66 TY66 rt66 nw66 WX66 WY66 rw66 nd66 P66 Q66 rd66 g066 g166 g266 g366 g466 g566 g666 g766 AR66 H locs ls (by first | with_reducible assumption | omega) (by first | with_reducible assumption | omega) (hJ7) (hrP6) (by first | with_reducible assumption | omega) hP hD hS (lv_sub hl [0, 3, 4, 1, 5, 6] rfl)
          refine W.widen (k := 4 * cmd md5 ft) (n := smd md5 (fun q => nN (mn q)) ft) (by omega) (by omega) ?_
          exact hl_27 _ 0 tc5 tp5 L5 f5 own5 nw5 md5 fm5 gh5 mnj cxj cyj nt1 TX1 TY1 rt1 nw1 WX1 WY1 rw1 nd1 P1 Q1 rd1 d5 d6 d7 d8 e5 e6 e7 e8 AR1 H locs ls (Nat.lt_succ_self _) (by first | with_reducible assumption | omega) (hJ5) (hrP0) (by first | with_reducible assumption | omega) hP hD hS (lv_sub hl [0, 1, 2, 3, 4, 5] rfl)
    refine W.widen (k := 4 * cmd (fun _ => 0) ft) (n := smd (fun _ => 0) (fun q => nN (mn q)) ft) (by omega) (by omega) ?_
    exact hl_14 _ 0 0 P9 L f own (la dn) (fun _ => 0) (fun _ => Value.null) (V dn) mn cx cy nt TX TY rt nw WX WY rw nd P Q rd b1 b2 b3 b4 b5 b6 b7 b8 AR s.heap [] ls (Nat.lt_succ_self _) (by first | with_reducible assumption | omega) (⟨hG, hM, fun _ => Nat.zero_le _, hok, fun _ _ => rfl, hO, gR_0 hO (Nat.le_refl _) hok⟩) (Or.inl ⟨rfl, TT, hrun, by omega⟩) hP hD hS (lv_sub hl [0, 1, 2, 3] rfl)
  · have c_1 : lim.toInt < 0 := zc_nle rfl rfl c_1
    exfalso; omega
end
