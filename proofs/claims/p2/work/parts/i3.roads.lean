set_option maxHeartbeats 4000000 in
set_option maxRecDepth 100000 in
theorem k_Roads_insert (l : Launch) (dC : Nat → ClassId) (dI : Nat → Nat → Nat) (cI cZ cF : ClassId) (sz : Nat) (ro : Nat) (za : Nat) (zw : Nat) (zx : Nat) (zy : Nat) (zg : Nat) (n : Nat) (fq : Nat) (wt9 : Nat) (RA : Nat → Option Nat) (WT : Nat → Int32) (wt : Nat → Nat) (L : List Nat) (f : Nat → va_E) (hn : n < 200) (hRA : ∀ k, k < n → ∃ a, RA k = some a ∧ feC L f a) (hfq : feC L f fq) (hWT : ∀ k, k < n → WT k = nI (wt k)) (hwb : (∀ k, k < n → wt k ≤ 1000000) ∧ wt9 ≤ 1000000) (hso : ∀ j k, j ≤ k → k < n → wt j ≤ wt k) : Met l yX6_insert (.code yX6_insert cX6_insert 5 none :: ws0) ({ frames := 0, cells := 0, slots := 0, locals := 0 } : Room) (va_Pc [.ref ro, .ref fq, .int (nI wt9)] (zPre (dC, dI) classes (zTy cI cZ cF) ([(oc5 ro (.ref za) (.ref zw) (.ref zx) (.ref zy) (.ref zg) (nI n)), (oq za cF 200 RA), (oa zw cI 200 WT)] ++ va_pl L f) sz zXN)) (zQ none (fun t => ∃ (p5 : Nat), ∃ (RA1 : Nat → Option Nat), ∃ (WT1 : Nat → Int32), (p5 ≤ n) ∧ (∀ k, k < p5 → RA1 k = RA k ∧ WT1 k = WT k ∧ wt k ≤ wt9) ∧ (RA1 p5 = some fq ∧ WT1 p5 = nI wt9) ∧ (∀ k, p5 ≤ k → k < n → RA1 (k + 1) = RA k ∧ WT1 (k + 1) = WT k ∧ wt9 < wt k) ∧ va_P (dC, dI) classes ([(oc5 ro (.ref za) (.ref zw) (.ref zx) (.ref zy) (.ref zg) (nI (n + 1))), (oq za cF 200 RA1), (oa zw cI 200 WT1)] ++ va_pl L f) t.heap ∧ va_D (va_A ([(oc5 ro (.ref za) (.ref zw) (.ref zx) (.ref zy) (.ref zg) (nI n)), (oq za cF 200 RA), (oa zw cI 200 WT)] ++ va_pl L f) sz) ([(oc5 ro (.ref za) (.ref zw) (.ref zx) (.ref zy) (.ref zg) (nI (n + 1))), (oq za cF 200 RA1), (oa zw cI 200 WT1)] ++ va_pl L f)) (va_A ([(oc5 ro (.ref za) (.ref zw) (.ref zx) (.ref zy) (.ref zg) (nI n)), (oq za cF 200 RA), (oa zw cI 200 WT)] ++ va_pl L f) sz)) 0 0 (va_A ([(oc5 ro (.ref za) (.ref zw) (.ref zx) (.ref zy) (.ref zg) (nI n)), (oq za cF 200 RA), (oa zw cI 200 WT)] ++ va_pl L f) sz) := by
  refine Met.ofW (cc := cX6_insert) (maxL := 5) (ret := none) (by decide) rfl ?_
  intro p e s m args below meth c s₁ B hml hv
  obtain ⟨rfl, hsz, hP, hK, hD0, hXN⟩ := hv
  have hx := B.exec
  have hb := B.bytes
  have hr := B.returns
  have hts0 := atoms_spec (ws := .code yX6_insert cX6_insert 5 none :: ws0) B.pre
  have hts : ∀ w9 ∈ ws0, w9.before ([.ref ro, .ref fq, .int (nI wt9)] : List Value).toArray s = true := fun w9 h => hts0 w9 (List.mem_cons_of_mem _ h)
  have hown : s.vm.findClass "ScaleShop$Roads" = some m.cls := findClass_of_methodNamed B.named
  have hlocks := B.notSynchronized
  subst hsz
  have hD := hD0.self (sz := s.heap.size)
  clear hD0
  generalize hAe : va_A ([(oc5 ro (.ref za) (.ref zw) (.ref zx) (.ref zy) (.ref zg) (nI n)), (oq za cF 200 RA), (oa zw cI 200 WT)] ++ va_pl L f) s.heap.size = A at hD ⊢
  have hA : ∀ q : Nat, s.heap.size ≤ q → A q := fun q h => by rw [← hAe]; exact Or.inr h
  clear hAe
  have hS : va_S A s.heap s.heap [] := va_S.rf
  have hP : va_P (dC, dI) classes ([(oc5 ro (.ref za) (.ref zw) (.ref zx) (.ref zy) (.ref zg) (nI n)), (oq za cF 200 RA), (oa zw cI 200 WT)] ++ va_pl L f) s.heap := hP
  obtain ⟨Q9, hQ9⟩ : ∃ Q9 : State → Prop, Q9 = MQ below (zQ none (fun t => ∃ (p5 : Nat), ∃ (RA1 : Nat → Option Nat), ∃ (WT1 : Nat → Int32), (p5 ≤ n) ∧ (∀ k, k < p5 → RA1 k = RA k ∧ WT1 k = WT k ∧ wt k ≤ wt9) ∧ (RA1 p5 = some fq ∧ WT1 p5 = nI wt9) ∧ (∀ k, p5 ≤ k → k < n → RA1 (k + 1) = RA k ∧ WT1 (k + 1) = WT k ∧ wt9 < wt k) ∧ va_P (dC, dI) classes ([(oc5 ro (.ref za) (.ref zw) (.ref zx) (.ref zy) (.ref zg) (nI (n + 1))), (oq za cF 200 RA1), (oa zw cI 200 WT1)] ++ va_pl L f) t.heap ∧ va_D A ([(oc5 ro (.ref za) (.ref zw) (.ref zx) (.ref zy) (.ref zg) (nI (n + 1))), (oq za cF 200 RA1), (oa zw cI 200 WT1)] ++ va_pl L f)) A) ([.ref ro, .ref fq, .int (nI wt9)] : List Value).toArray s 0 0 A := ⟨_, rfl⟩
  rw [← hQ9]
  have hl := lv_entry ([.ref ro, .ref fq, .int (nI wt9)]) (n := 5) (Nat.le_of_ble_eq_true rfl)
  rw [lg_entry_eq]
  generalize (lg_sl ([.ref ro, .ref fq, .int (nI wt9)]) ++ List.replicate (5 - (lg_sl ([.ref ro, .ref fq, .int (nI wt9)])).length) Slot.unset).toArray = ls at hl ⊢
  have hl : lv_has ls 5 [(0, .ref ro), (1, .ref fq), (2, .int (nI wt9))] := hl
  have hwb7 := hwb.2
  obtain ⟨v16, v26, v36, v46, v56, v66, v76, v86, hcq6⟩ := hfq
  refine lv_aload_n hx hb dX6_insert_0 rfl (lv_at hl 0 rfl) ?_
  refine va_get (D := (dC, dI)) (ci := 5) (v := .int (nI n)) (C := RX6) (T := TX6) (N := 6) hx hb hts inX6 hown hK hP 0 rfl rfl 5 (by decide) (hts _ mw_251) (fun _ h9 => h9) rfl dX6_insert_1 ?_
  refine lv_aload_n hx hb dX6_insert_4 rfl (lv_at hl 0 rfl) ?_
  refine va_get (D := (dC, dI)) (ci := 5) (v := .ref za) (C := RX6) (T := TX6) (N := 6) hx hb hts inX6 hown hK hP 0 rfl rfl 0 (by decide) (hts _ mw_246) (fun _ h9 => h9) rfl dX6_insert_5 ?_
  refine va_alen (v := 200) hx hb hK hP 1 2 rfl rfl (rfl) dX6_insert_8 ?_
  refine lv_icmp_lt (tgt := 13) hx hb dX6_insert_9 (by decide) (fun c_1 => ?_) (fun c_1 => ?_)
  · have c_1 : ((n : Nat) : Int) < 200 := zc_lt (nI_toInt (by omega)) (by decide) c_1
    refine lv_aload_n hx hb dX6_insert_13 rfl (lv_at hl 0 rfl) ?_
    refine va_get (D := (dC, dI)) (ci := 5) (v := .int (nI n)) (C := RX6) (T := TX6) (N := 6) hx hb hts inX6 hown hK hP 0 rfl rfl 5 (by decide) (hts _ mw_251) (fun _ h9 => h9) rfl dX6_insert_14 ?_
    refine lv_istore_n (lv' := [(3, .int (nI n)), (0, .ref ro), (1, .ref fq), (2, .int (nI wt9))]) hx hb dX6_insert_17 rfl hl (by decide) rfl (fun ls hl => ?_)
    refine lv_aload_n hx hb dX6_insert_18 rfl (lv_at hl 1 rfl) ?_
    refine va_get (D := (dC, dI)) (ci := 5) (v := .int (nI n)) (C := RX6) (T := TX6) (N := 6) hx hb hts inX6 hown hK hP 0 rfl rfl 5 (by decide) (hts _ mw_251) (fun _ h9 => h9) rfl dX6_insert_19 ?_
    refine lv_iconst (v := 1) hx hb dX6_insert_22 (by decide) ?_
    refine lv_isub hx hb dX6_insert_23 ?_
    refine zz_i (v := iI (((n : Nat) : Int) - 1)) (ii_pre (by omega)) ?_
    refine lv_istore (lv' := [(4, .int (iI (((n : Nat) : Int) - 1))), (3, .int (nI n)), (0, .ref ro), (1, .ref fq), (2, .int (nI wt9))]) hx hb dX6_insert_24 hl (by decide) rfl (fun ls hl => ?_)
    have hl_26 : ∀ (n9 : Nat) (k5 : Nat) (RAk : Nat → Option Nat) (WTk : Nat → Int32) (H : Heap) (locs : List Loc) (ls : Array Slot), k5 < n9 → (k5 ≤ n) → (∀ k, k < k5 → RAk k = RA k ∧ WTk k = WT k) → (∀ k, k5 ≤ k → k < n → RAk (k + 1) = RA k ∧ WTk (k + 1) = WT k ∧ wt9 < wt k) → va_P (dC, dI) classes ([(oc5 ro (.ref za) (.ref zw) (.ref zx) (.ref zy) (.ref zg) (nI n)), (oq za cF 200 RAk), (oa zw cI 200 WTk)] ++ va_pl L f) H → va_D A ([(oc5 ro (.ref za) (.ref zw) (.ref zx) (.ref zy) (.ref zg) (nI n)), (oq za cF 200 RAk), (oa zw cI 200 WTk)] ++ va_pl L f) → va_S A s.heap H locs → lv_has ls 5 [(4, .int (iI (((k5 : Nat) : Int) - 1))), (3, .int (nI k5)), (0, .ref ro), (1, .ref fq), (2, .int (nI wt9))] → W p l e ((headSpec (.code yX6_insert cX6_insert 5 none :: ws0) ({ frames := 0, cells := 0, slots := 0, locals := 0 } : Room)).room) s m ([.ref ro, .ref fq, .int (nI wt9)] : List Value).toArray below meth c H locs 0 0 Q9 (F0 m 26 ls []) := by
      intro n9
      induction n9 with
      | zero => intro k5 RAk WTk H locs ls hm; exact absurd hm (Nat.not_lt_zero _)
      | succ n9 ih_26 =>
        intro k5 RAk WTk H locs ls hm hk5 hk1 hk2 hP hD hS hl
        refine lv_iload hx hb dX6_insert_26 (lv_at hl 0 rfl) ?_
        refine lv_if_lt (tgt := 83) hx hb dX6_insert_28 (by decide) (fun c_2 => ?_) (fun c_2 => ?_)
        · have c_2 : (((k5 : Nat) : Int) - 1) < 0 := zc_lt (iI_toInt (by omega)) (by decide) c_2
          have hc9_1 : inPl L f [(fq, .inr (1, [v16, v26, v36, v46, v56, v66, v76, v86]))] := ⟨hcq6, trivial⟩
          have hD0_1 := hD
          obtain ⟨hP, hD⟩ := pl_out hP hD [(fq, .inr (1, [v16, v26, v36, v46, v56, v66, v76, v86]))] hc9_1 (List.pairwise_singleton _ _)
          generalize hT_1 : outPl L [(fq, .inr (1, [v16, v26, v36, v46, v56, v66, v76, v86]))] = T_1 at hP hD
          have hP : va_P (dC, dI) classes ([(oc5 ro (.ref za) (.ref zw) (.ref zx) (.ref zy) (.ref zg) (nI n)), (oq za cF 200 RAk), (oa zw cI 200 WTk), (fq, .inr (1, [v16, v26, v36, v46, v56, v66, v76, v86]))] ++ va_pl T_1 f) H := hP
          have hD : va_D A ([(oc5 ro (.ref za) (.ref zw) (.ref zx) (.ref zy) (.ref zg) (nI n)), (oq za cF 200 RAk), (oa zw cI 200 WTk), (fq, .inr (1, [v16, v26, v36, v46, v56, v66, v76, v86]))] ++ va_pl T_1 f) := hD
          refine lv_aload_n hx hb dX6_insert_83 rfl (lv_at hl 2 rfl) ?_
          refine va_get (D := (dC, dI)) (ci := 5) (v := .ref za) (C := RX6) (T := TX6) (N := 6) hx hb hts inX6 hown hK hP 0 rfl rfl 0 (by decide) (hts _ mw_246) (fun _ h9 => h9) rfl dX6_insert_84 ?_
          refine lv_iload_n hx hb dX6_insert_87 rfl (lv_at hl 1 rfl) ?_
          refine lv_aload_n hx hb dX6_insert_88 rfl (lv_at hl 3 rfl) ?_
          refine z_aast hx hb hK hP hD hS 1 2 3 1 rfl rfl rfl rfl (e := k5) rfl (by omega) (by omega) dX6_insert_89 (fun H locs hP hD hS => ?_)
          have hP : va_P (dC, dI) classes ([(oc5 ro (.ref za) (.ref zw) (.ref zx) (.ref zy) (.ref zg) (nI n)), (oq za cF 200 (va_up RAk k5 (some fq))), (oa zw cI 200 WTk), (fq, .inr (1, [v16, v26, v36, v46, v56, v66, v76, v86]))] ++ va_pl T_1 f) H := hP
          have hD : va_D A ([(oc5 ro (.ref za) (.ref zw) (.ref zx) (.ref zy) (.ref zg) (nI n)), (oq za cF 200 (va_up RAk k5 (some fq))), (oa zw cI 200 WTk), (fq, .inr (1, [v16, v26, v36, v46, v56, v66, v76, v86]))] ++ va_pl T_1 f) := hD
          have hP := pl_back (cs := [(fq, .inr (1, [v16, v26, v36, v46, v56, v66, v76, v86]))]) (L := L) (f := f) (X := [(oc5 ro (.ref za) (.ref zw) (.ref zx) (.ref zy) (.ref zg) (nI n)), (oq za cF 200 (va_up RAk k5 (some fq))), (oa zw cI 200 WTk)]) (by rw [hT_1]; exact (show va_P (dC, dI) classes (([(oc5 ro (.ref za) (.ref zw) (.ref zx) (.ref zy) (.ref zg) (nI n)), (oq za cF 200 (va_up RAk k5 (some fq))), (oa zw cI 200 WTk)] ++ [(fq, .inr (1, [v16, v26, v36, v46, v56, v66, v76, v86]))]) ++ va_pl T_1 f) H from hP)) hc9_1
          have hD : va_D A ([(oc5 ro (.ref za) (.ref zw) (.ref zx) (.ref zy) (.ref zg) (nI n)), (oq za cF 200 (va_up RAk k5 (some fq))), (oa zw cI 200 WTk)] ++ va_pl L f) := vaD_ae hD0_1 rfl
          refine lv_aload_n hx hb dX6_insert_90 rfl (lv_at hl 2 rfl) ?_
          refine va_get (D := (dC, dI)) (ci := 5) (v := .ref zw) (C := RX6) (T := TX6) (N := 6) hx hb hts inX6 hown hK hP 0 rfl rfl 1 (by decide) (hts _ mw_247) (fun _ h9 => h9) rfl dX6_insert_91 ?_
          refine lv_iload_n hx hb dX6_insert_94 rfl (lv_at hl 1 rfl) ?_
          refine lv_iload_n hx hb dX6_insert_95 rfl (lv_at hl 4 rfl) ?_
          refine z_iast hx hb hK hP hD hS 2 0 rfl rfl (e := k5) (x := nI wt9) rfl (by omega) (by omega) dX6_insert_96 (fun H locs hP hD hS => ?_)
          have hP : va_P (dC, dI) classes ([(oc5 ro (.ref za) (.ref zw) (.ref zx) (.ref zy) (.ref zg) (nI n)), (oq za cF 200 (va_up RAk k5 (some fq))), (oa zw cI 200 (upd WTk k5 (nI wt9)))] ++ va_pl L f) H := hP
          have hD : va_D A ([(oc5 ro (.ref za) (.ref zw) (.ref zx) (.ref zy) (.ref zg) (nI n)), (oq za cF 200 (va_up RAk k5 (some fq))), (oa zw cI 200 (upd WTk k5 (nI wt9)))] ++ va_pl L f) := hD
          refine lv_aload_n hx hb dX6_insert_97 rfl (lv_at hl 2 rfl) ?_
          refine lv_dup hx hb dX6_insert_98 rfl ?_
          refine va_get (D := (dC, dI)) (ci := 5) (v := .int (nI n)) (C := RX6) (T := TX6) (N := 6) hx hb hts inX6 hown hK hP 0 rfl rfl 5 (by decide) (hts _ mw_251) (fun _ h9 => h9) rfl dX6_insert_99 ?_
          refine lv_iconst (v := 1) hx hb dX6_insert_102 (by decide) ?_
          refine lv_iadd hx hb dX6_insert_103 ?_
          refine zz_i (v := nI (n + 1)) (nI_add n 1) ?_
          refine va_put (D := (dC, dI)) (ci := 5) (v := .int (nI (n + 1))) (ty := .int) (C := RX6) (T := TX6) (N := 6) hx hb hts inX6 tyX6 tyX6_ok nmX6 hown hK hP hD hS 0 rfl rfl 5 (by decide) (hts _ mw_251) (fun _ h9 => h9) rfl (by decide +kernel) rfl rfl (Nat.le_of_ble_eq_true rfl) dX6_insert_104 (fun H locs hP hD hS => ?_)
          have hP : va_P (dC, dI) classes ([(oc5 ro (.ref za) (.ref zw) (.ref zx) (.ref zy) (.ref zg) (nI (n + 1))), (oq za cF 200 (va_up RAk k5 (some fq))), (oa zw cI 200 (upd WTk k5 (nI wt9)))] ++ va_pl L f) H := hP
          have hD : va_D A ([(oc5 ro (.ref za) (.ref zw) (.ref zx) (.ref zy) (.ref zg) (nI (n + 1))), (oq za cF 200 (va_up RAk k5 (some fq))), (oa zw cI 200 (upd WTk k5 (nI wt9)))] ++ va_pl L f) := hD
          have hie := ins_e (q := fq) (p := k5) (w := wt9) hk1 hk2 (fun k hk => by omega)
          have hP9 := hP.part (cx := [(oc5 ro (.ref za) (.ref zw) (.ref zx) (.ref zy) (.ref zg) (nI (n + 1))), (oq za cF 200 (va_up RAk k5 (some fq))), (oa zw cI 200 (upd WTk k5 (nI wt9)))]) [0, 1, 2] rfl
          have hD9 := hD.part (cx := [(oc5 ro (.ref za) (.ref zw) (.ref zx) (.ref zy) (.ref zg) (nI (n + 1))), (oq za cF 200 (va_up RAk k5 (some fq))), (oa zw cI 200 (upd WTk k5 (nI wt9)))]) [0, 1, 2] (by decide) rfl
          rw [hQ9]
          exact W.vret hx hb hr (fun t ht hW => ⟨⟨rfl, k5, (va_up RAk k5 (some fq)), (upd WTk k5 (nI wt9)), (by omega), (hie.1), (hie.2.1), (hie.2.2), by rw [ht]; exact hP9, hD9⟩, hS.F ht⟩) hS.2.2 dX6_insert_107
        · have c_2 : 0 ≤ (((k5 : Nat) : Int) - 1) := zc_nlt (iI_toInt (by omega)) (by decide) c_2
          obtain ⟨j5, hj5⟩ : ∃ j, k5 = j + 1 := ⟨k5 - 1, by omega⟩
          subst hj5
          obtain ⟨a5, hra5, v15, v25, v35, v45, v55, v65, v75, v85, hca5⟩ := hRA j5 (by omega)
          have hra6 : RAk j5 = some a5 := (hk1 j5 (by omega)).1.trans hra5
          have hwt6 : WTk j5 = nI (wt j5) := (hk1 j5 (by omega)).2.trans (hWT j5 (by omega))
          have hwb6 := hwb.1 j5 (by omega)
          refine lv_aload_n hx hb dX6_insert_31 rfl (lv_at hl 2 rfl) ?_
          refine va_get (D := (dC, dI)) (ci := 5) (v := .ref zw) (C := RX6) (T := TX6) (N := 6) hx hb hts inX6 hown hK hP 0 rfl rfl 1 (by decide) (hts _ mw_247) (fun _ h9 => h9) rfl dX6_insert_32 ?_
          refine lv_iload hx hb dX6_insert_35 (lv_at hl 0 rfl) ?_
          refine zz_i (v := nI j5) (ii_nat (by omega) (by omega)) ?_
          refine z_iald hx hb hK hP 2 0 rfl rfl (e := j5) rfl (by omega) (by omega) dX6_insert_37 ?_
          refine zz_i (v := nI (wt j5)) (hwt6) ?_
          refine lv_iload_n hx hb dX6_insert_38 rfl (lv_at hl 4 rfl) ?_
          refine lv_icmp_le (tgt := 83) hx hb dX6_insert_39 (by decide) (fun c_3 => ?_) (fun c_3 => ?_)
          · have c_3 : ((wt j5 : Nat) : Int) ≤ ((wt9 : Nat) : Int) := zc_le (nI_toInt (by omega)) (nI_toInt (by omega)) c_3
            have hc9_1 : inPl L f [(fq, .inr (1, [v16, v26, v36, v46, v56, v66, v76, v86]))] := ⟨hcq6, trivial⟩
            have hD0_1 := hD
            obtain ⟨hP, hD⟩ := pl_out hP hD [(fq, .inr (1, [v16, v26, v36, v46, v56, v66, v76, v86]))] hc9_1 (List.pairwise_singleton _ _)
            generalize hT_1 : outPl L [(fq, .inr (1, [v16, v26, v36, v46, v56, v66, v76, v86]))] = T_1 at hP hD
            have hP : va_P (dC, dI) classes ([(oc5 ro (.ref za) (.ref zw) (.ref zx) (.ref zy) (.ref zg) (nI n)), (oq za cF 200 RAk), (oa zw cI 200 WTk), (fq, .inr (1, [v16, v26, v36, v46, v56, v66, v76, v86]))] ++ va_pl T_1 f) H := hP
            have hD : va_D A ([(oc5 ro (.ref za) (.ref zw) (.ref zx) (.ref zy) (.ref zg) (nI n)), (oq za cF 200 RAk), (oa zw cI 200 WTk), (fq, .inr (1, [v16, v26, v36, v46, v56, v66, v76, v86]))] ++ va_pl T_1 f) := hD
            refine lv_aload_n hx hb dX6_insert_83 rfl (lv_at hl 2 rfl) ?_
            refine va_get (D := (dC, dI)) (ci := 5) (v := .ref za) (C := RX6) (T := TX6) (N := 6) hx hb hts inX6 hown hK hP 0 rfl rfl 0 (by decide) (hts _ mw_246) (fun _ h9 => h9) rfl dX6_insert_84 ?_
            refine lv_iload_n hx hb dX6_insert_87 rfl (lv_at hl 1 rfl) ?_
            refine lv_aload_n hx hb dX6_insert_88 rfl (lv_at hl 3 rfl) ?_
            refine z_aast hx hb hK hP hD hS 1 2 3 1 rfl rfl rfl rfl (e := j5 + 1) rfl (by omega) (by omega) dX6_insert_89 (fun H locs hP hD hS => ?_)
            have hP : va_P (dC, dI) classes ([(oc5 ro (.ref za) (.ref zw) (.ref zx) (.ref zy) (.ref zg) (nI n)), (oq za cF 200 (va_up RAk (j5 + 1) (some fq))), (oa zw cI 200 WTk), (fq, .inr (1, [v16, v26, v36, v46, v56, v66, v76, v86]))] ++ va_pl T_1 f) H := hP
            have hD : va_D A ([(oc5 ro (.ref za) (.ref zw) (.ref zx) (.ref zy) (.ref zg) (nI n)), (oq za cF 200 (va_up RAk (j5 + 1) (some fq))), (oa zw cI 200 WTk), (fq, .inr (1, [v16, v26, v36, v46, v56, v66, v76, v86]))] ++ va_pl T_1 f) := hD
            have hP := pl_back (cs := [(fq, .inr (1, [v16, v26, v36, v46, v56, v66, v76, v86]))]) (L := L) (f := f) (X := [(oc5 ro (.ref za) (.ref zw) (.ref zx) (.ref zy) (.ref zg) (nI n)), (oq za cF 200 (va_up RAk (j5 + 1) (some fq))), (oa zw cI 200 WTk)]) (by rw [hT_1]; exact (show va_P (dC, dI) classes (([(oc5 ro (.ref za) (.ref zw) (.ref zx) (.ref zy) (.ref zg) (nI n)), (oq za cF 200 (va_up RAk (j5 + 1) (some fq))), (oa zw cI 200 WTk)] ++ [(fq, .inr (1, [v16, v26, v36, v46, v56, v66, v76, v86]))]) ++ va_pl T_1 f) H from hP)) hc9_1
            have hD : va_D A ([(oc5 ro (.ref za) (.ref zw) (.ref zx) (.ref zy) (.ref zg) (nI n)), (oq za cF 200 (va_up RAk (j5 + 1) (some fq))), (oa zw cI 200 WTk)] ++ va_pl L f) := vaD_ae hD0_1 rfl
            refine lv_aload_n hx hb dX6_insert_90 rfl (lv_at hl 2 rfl) ?_
            refine va_get (D := (dC, dI)) (ci := 5) (v := .ref zw) (C := RX6) (T := TX6) (N := 6) hx hb hts inX6 hown hK hP 0 rfl rfl 1 (by decide) (hts _ mw_247) (fun _ h9 => h9) rfl dX6_insert_91 ?_
            refine lv_iload_n hx hb dX6_insert_94 rfl (lv_at hl 1 rfl) ?_
            refine lv_iload_n hx hb dX6_insert_95 rfl (lv_at hl 4 rfl) ?_
            refine z_iast hx hb hK hP hD hS 2 0 rfl rfl (e := j5 + 1) (x := nI wt9) rfl (by omega) (by omega) dX6_insert_96 (fun H locs hP hD hS => ?_)
            have hP : va_P (dC, dI) classes ([(oc5 ro (.ref za) (.ref zw) (.ref zx) (.ref zy) (.ref zg) (nI n)), (oq za cF 200 (va_up RAk (j5 + 1) (some fq))), (oa zw cI 200 (upd WTk (j5 + 1) (nI wt9)))] ++ va_pl L f) H := hP
            have hD : va_D A ([(oc5 ro (.ref za) (.ref zw) (.ref zx) (.ref zy) (.ref zg) (nI n)), (oq za cF 200 (va_up RAk (j5 + 1) (some fq))), (oa zw cI 200 (upd WTk (j5 + 1) (nI wt9)))] ++ va_pl L f) := hD
            refine lv_aload_n hx hb dX6_insert_97 rfl (lv_at hl 2 rfl) ?_
            refine lv_dup hx hb dX6_insert_98 rfl ?_
            refine va_get (D := (dC, dI)) (ci := 5) (v := .int (nI n)) (C := RX6) (T := TX6) (N := 6) hx hb hts inX6 hown hK hP 0 rfl rfl 5 (by decide) (hts _ mw_251) (fun _ h9 => h9) rfl dX6_insert_99 ?_
            refine lv_iconst (v := 1) hx hb dX6_insert_102 (by decide) ?_
            refine lv_iadd hx hb dX6_insert_103 ?_
            refine zz_i (v := nI (n + 1)) (nI_add n 1) ?_
            refine va_put (D := (dC, dI)) (ci := 5) (v := .int (nI (n + 1))) (ty := .int) (C := RX6) (T := TX6) (N := 6) hx hb hts inX6 tyX6 tyX6_ok nmX6 hown hK hP hD hS 0 rfl rfl 5 (by decide) (hts _ mw_251) (fun _ h9 => h9) rfl (by decide +kernel) rfl rfl (Nat.le_of_ble_eq_true rfl) dX6_insert_104 (fun H locs hP hD hS => ?_)
            have hP : va_P (dC, dI) classes ([(oc5 ro (.ref za) (.ref zw) (.ref zx) (.ref zy) (.ref zg) (nI (n + 1))), (oq za cF 200 (va_up RAk (j5 + 1) (some fq))), (oa zw cI 200 (upd WTk (j5 + 1) (nI wt9)))] ++ va_pl L f) H := hP
            have hD : va_D A ([(oc5 ro (.ref za) (.ref zw) (.ref zx) (.ref zy) (.ref zg) (nI (n + 1))), (oq za cF 200 (va_up RAk (j5 + 1) (some fq))), (oa zw cI 200 (upd WTk (j5 + 1) (nI wt9)))] ++ va_pl L f) := hD
            have hie := ins_e (q := fq) (p := j5 + 1) (w := wt9) hk1 hk2 (fun k hk => Nat.le_trans (hso k j5 (by omega) (by omega)) (by omega))
            have hP9 := hP.part (cx := [(oc5 ro (.ref za) (.ref zw) (.ref zx) (.ref zy) (.ref zg) (nI (n + 1))), (oq za cF 200 (va_up RAk (j5 + 1) (some fq))), (oa zw cI 200 (upd WTk (j5 + 1) (nI wt9)))]) [0, 1, 2] rfl
            have hD9 := hD.part (cx := [(oc5 ro (.ref za) (.ref zw) (.ref zx) (.ref zy) (.ref zg) (nI (n + 1))), (oq za cF 200 (va_up RAk (j5 + 1) (some fq))), (oa zw cI 200 (upd WTk (j5 + 1) (nI wt9)))]) [0, 1, 2] (by decide) rfl
            rw [hQ9]
            exact W.vret hx hb hr (fun t ht hW => ⟨⟨rfl, (j5 + 1), (va_up RAk (j5 + 1) (some fq)), (upd WTk (j5 + 1) (nI wt9)), (by omega), (hie.1), (hie.2.1), (hie.2.2), by rw [ht]; exact hP9, hD9⟩, hS.F ht⟩) hS.2.2 dX6_insert_107
          · have c_3 : ((wt9 : Nat) : Int) < ((wt j5 : Nat) : Int) := zc_nle (nI_toInt (by omega)) (nI_toInt (by omega)) c_3
            have hc9_1 : inPl L f [(a5, .inr (1, [v15, v25, v35, v45, v55, v65, v75, v85]))] := ⟨hca5, trivial⟩
            have hD0_1 := hD
            obtain ⟨hP, hD⟩ := pl_out hP hD [(a5, .inr (1, [v15, v25, v35, v45, v55, v65, v75, v85]))] hc9_1 (List.pairwise_singleton _ _)
            generalize hT_1 : outPl L [(a5, .inr (1, [v15, v25, v35, v45, v55, v65, v75, v85]))] = T_1 at hP hD
            have hP : va_P (dC, dI) classes ([(oc5 ro (.ref za) (.ref zw) (.ref zx) (.ref zy) (.ref zg) (nI n)), (oq za cF 200 RAk), (oa zw cI 200 WTk), (a5, .inr (1, [v15, v25, v35, v45, v55, v65, v75, v85]))] ++ va_pl T_1 f) H := hP
            have hD : va_D A ([(oc5 ro (.ref za) (.ref zw) (.ref zx) (.ref zy) (.ref zg) (nI n)), (oq za cF 200 RAk), (oa zw cI 200 WTk), (a5, .inr (1, [v15, v25, v35, v45, v55, v65, v75, v85]))] ++ va_pl T_1 f) := hD
            refine lv_aload_n hx hb dX6_insert_42 rfl (lv_at hl 2 rfl) ?_
            refine va_get (D := (dC, dI)) (ci := 5) (v := .ref za) (C := RX6) (T := TX6) (N := 6) hx hb hts inX6 hown hK hP 0 rfl rfl 0 (by decide) (hts _ mw_246) (fun _ h9 => h9) rfl dX6_insert_43 ?_
            refine lv_iload hx hb dX6_insert_46 (lv_at hl 0 rfl) ?_
            refine zz_i (v := nI j5) (ii_nat (by omega) (by omega)) ?_
            refine lv_iconst (v := 1) hx hb dX6_insert_48 (by decide) ?_
            refine lv_iadd hx hb dX6_insert_49 ?_
            refine zz_i (v := nI (j5 + 1)) (nI_add j5 1) ?_
            refine lv_aload_n hx hb dX6_insert_50 rfl (lv_at hl 2 rfl) ?_
            refine va_get (D := (dC, dI)) (ci := 5) (v := .ref za) (C := RX6) (T := TX6) (N := 6) hx hb hts inX6 hown hK hP 0 rfl rfl 0 (by decide) (hts _ mw_246) (fun _ h9 => h9) rfl dX6_insert_51 ?_
            refine lv_iload hx hb dX6_insert_54 (lv_at hl 0 rfl) ?_
            refine zz_i (v := nI j5) (ii_nat (by omega) (by omega)) ?_
            refine z_aald hx hb hK hP 1 2 rfl rfl (e := j5) rfl (by omega) (by omega) (v := .ref a5) (by rw [hra6]; rfl) dX6_insert_56 ?_
            refine z_aast hx hb hK hP hD hS 1 2 3 1 rfl rfl rfl rfl (e := j5 + 1) rfl (by omega) (by omega) dX6_insert_57 (fun H locs hP hD hS => ?_)
            have hP : va_P (dC, dI) classes ([(oc5 ro (.ref za) (.ref zw) (.ref zx) (.ref zy) (.ref zg) (nI n)), (oq za cF 200 (va_up RAk (j5 + 1) (some a5))), (oa zw cI 200 WTk), (a5, .inr (1, [v15, v25, v35, v45, v55, v65, v75, v85]))] ++ va_pl T_1 f) H := hP
            have hD : va_D A ([(oc5 ro (.ref za) (.ref zw) (.ref zx) (.ref zy) (.ref zg) (nI n)), (oq za cF 200 (va_up RAk (j5 + 1) (some a5))), (oa zw cI 200 WTk), (a5, .inr (1, [v15, v25, v35, v45, v55, v65, v75, v85]))] ++ va_pl T_1 f) := hD
            have hP := pl_back (cs := [(a5, .inr (1, [v15, v25, v35, v45, v55, v65, v75, v85]))]) (L := L) (f := f) (X := [(oc5 ro (.ref za) (.ref zw) (.ref zx) (.ref zy) (.ref zg) (nI n)), (oq za cF 200 (va_up RAk (j5 + 1) (some a5))), (oa zw cI 200 WTk)]) (by rw [hT_1]; exact (show va_P (dC, dI) classes (([(oc5 ro (.ref za) (.ref zw) (.ref zx) (.ref zy) (.ref zg) (nI n)), (oq za cF 200 (va_up RAk (j5 + 1) (some a5))), (oa zw cI 200 WTk)] ++ [(a5, .inr (1, [v15, v25, v35, v45, v55, v65, v75, v85]))]) ++ va_pl T_1 f) H from hP)) hc9_1
            have hD : va_D A ([(oc5 ro (.ref za) (.ref zw) (.ref zx) (.ref zy) (.ref zg) (nI n)), (oq za cF 200 (va_up RAk (j5 + 1) (some a5))), (oa zw cI 200 WTk)] ++ va_pl L f) := vaD_ae hD0_1 rfl
            refine lv_aload_n hx hb dX6_insert_58 rfl (lv_at hl 2 rfl) ?_
            refine va_get (D := (dC, dI)) (ci := 5) (v := .ref zw) (C := RX6) (T := TX6) (N := 6) hx hb hts inX6 hown hK hP 0 rfl rfl 1 (by decide) (hts _ mw_247) (fun _ h9 => h9) rfl dX6_insert_59 ?_
            refine lv_iload hx hb dX6_insert_62 (lv_at hl 0 rfl) ?_
            refine zz_i (v := nI j5) (ii_nat (by omega) (by omega)) ?_
            refine lv_iconst (v := 1) hx hb dX6_insert_64 (by decide) ?_
            refine lv_iadd hx hb dX6_insert_65 ?_
            refine zz_i (v := nI (j5 + 1)) (nI_add j5 1) ?_
            refine lv_aload_n hx hb dX6_insert_66 rfl (lv_at hl 2 rfl) ?_
            refine va_get (D := (dC, dI)) (ci := 5) (v := .ref zw) (C := RX6) (T := TX6) (N := 6) hx hb hts inX6 hown hK hP 0 rfl rfl 1 (by decide) (hts _ mw_247) (fun _ h9 => h9) rfl dX6_insert_67 ?_
            refine lv_iload hx hb dX6_insert_70 (lv_at hl 0 rfl) ?_
            refine zz_i (v := nI j5) (ii_nat (by omega) (by omega)) ?_
            refine z_iald hx hb hK hP 2 0 rfl rfl (e := j5) rfl (by omega) (by omega) dX6_insert_72 ?_
            refine zz_i (v := nI (wt j5)) (hwt6) ?_
            refine z_iast hx hb hK hP hD hS 2 0 rfl rfl (e := j5 + 1) (x := nI (wt j5)) rfl (by omega) (by omega) dX6_insert_73 (fun H locs hP hD hS => ?_)
            have hP : va_P (dC, dI) classes ([(oc5 ro (.ref za) (.ref zw) (.ref zx) (.ref zy) (.ref zg) (nI n)), (oq za cF 200 (va_up RAk (j5 + 1) (some a5))), (oa zw cI 200 (upd WTk (j5 + 1) (nI (wt j5))))] ++ va_pl L f) H := hP
            have hD : va_D A ([(oc5 ro (.ref za) (.ref zw) (.ref zx) (.ref zy) (.ref zg) (nI n)), (oq za cF 200 (va_up RAk (j5 + 1) (some a5))), (oa zw cI 200 (upd WTk (j5 + 1) (nI (wt j5))))] ++ va_pl L f) := hD
            refine lv_iload hx hb dX6_insert_74 (lv_at hl 0 rfl) ?_
            refine zz_i (v := nI j5) (ii_nat (by omega) (by omega)) ?_
            refine lv_istore_n (lv' := [(3, .int (nI j5)), (4, .int (iI ((((j5 + 1) : Nat) : Int) - 1))), (0, .ref ro), (1, .ref fq), (2, .int (nI wt9))]) hx hb dX6_insert_76 rfl hl (by decide) rfl (fun ls hl => ?_)
            have hst9 := ins_s (w := wt9) hk1 hk2 hra6 hwt6 (by omega)
            refine lv_iinc (v := iI ((((j5 + 1) : Nat) : Int) - 1 - 1)) (lv' := [(4, .int (iI ((((j5 + 1) : Nat) : Int) - 1 - 1))), (3, .int (nI j5)), (0, .ref ro), (1, .ref fq), (2, .int (nI wt9))]) hx hb dX6_insert_77 hl (k := 1) rfl (ii_dec (by omega)) (by decide) rfl (fun ls hl => ?_)
            refine lv_goto (tgt := 26) hx hb dX6_insert_80 (by decide) ?_
            have hl9 := lv_sub hl [0, 1, 2, 3, 4] rfl
            have e9_4 : iI (((j5 : Nat) : Int) - 1) = (iI ((((j5 + 1) : Nat) : Int) - 1 - 1) : Int32) := by exact congrArg iI (by omega)
            have hl9 : lv_has ls 5 [(4, .int (iI (((j5 : Nat) : Int) - 1))), (3, .int (nI j5)), (0, .ref ro), (1, .ref fq), (2, .int (nI wt9))] := by rw [e9_4]; exact hl9
            exact ih_26 j5 (va_up RAk (j5 + 1) (some a5)) (upd WTk (j5 + 1) (nI (wt j5))) H locs ls (by omega) (by omega) (hst9.1) (hst9.2) hP hD hS hl9
    have e9_4 : iI (((n : Nat) : Int) - 1) = (iI (((n : Nat) : Int) - 1) : Int32) := by rfl
    have hl9 : lv_has ls 5 [(4, .int (iI (((n : Nat) : Int) - 1))), (3, .int (nI n)), (0, .ref ro), (1, .ref fq), (2, .int (nI wt9))] := by rw [e9_4]; exact lv_sub hl [0, 1, 2, 3, 4] rfl
    exact hl_26 _ n RA WT s.heap [] ls (Nat.lt_succ_self _) (by omega) (fun k _ => ⟨rfl, rfl⟩) (fun k h1 h2 => by omega) hP hD hS hl9
  · have c_1 : 200 ≤ ((n : Nat) : Int) := zc_nlt (nI_toInt (by omega)) (by decide) c_1
    exfalso; omega
set_option maxHeartbeats 4000000 in
set_option maxRecDepth 100000 in
theorem k_Roads_setEnd (l : Launch) (dC : Nat → ClassId) (dI : Nat → Nat → Nat) (cI cZ cF : ClassId) (sz : Nat) (ro : Nat) (za : Nat) (zw : Nat) (zx : Nat) (zy : Nat) (zg : Nat) (m9 : Nat) (nv : Int32) (px : Int32) (py : Int32) (EX : Nat → Int32) (EY : Nat → Int32) (GR : Nat → Int32) (hm9 : m9 < 400) : Met l yX6_setEnd (.code yX6_setEnd cX6_setEnd 5 none :: ws0) ({ frames := 0, cells := 0, slots := 0, locals := 0 } : Room) (va_Pc [.ref ro, .int (nI m9), .int px, .int py] (zPre (dC, dI) classes (zTy cI cZ cF) [(oc5 ro (.ref za) (.ref zw) (.ref zx) (.ref zy) (.ref zg) nv), (oa zx cI 400 EX), (oa zy cI 400 EY), (oa zg cI 400 GR)] sz zXN)) (zQ none (fun t => ∃ (k9 : Nat), ∃ (GR1 : Nat → Int32), (k9 ≤ m9 ∧ GR1 = upd GR m9 (nI k9)) ∧ (((upd EX m9 px) k9).toInt = px.toInt ∧ ((upd EY m9 py) k9).toInt = py.toInt) ∧ (∀ i, i < k9 → ¬ (((upd EX m9 px) i).toInt = px.toInt ∧ ((upd EY m9 py) i).toInt = py.toInt)) ∧ va_P (dC, dI) classes [(oc5 ro (.ref za) (.ref zw) (.ref zx) (.ref zy) (.ref zg) nv), (oa zx cI 400 (upd EX m9 px)), (oa zy cI 400 (upd EY m9 py)), (oa zg cI 400 GR1)] t.heap ∧ va_D (va_A [(oc5 ro (.ref za) (.ref zw) (.ref zx) (.ref zy) (.ref zg) nv), (oa zx cI 400 EX), (oa zy cI 400 EY), (oa zg cI 400 GR)] sz) [(oc5 ro (.ref za) (.ref zw) (.ref zx) (.ref zy) (.ref zg) nv), (oa zx cI 400 (upd EX m9 px)), (oa zy cI 400 (upd EY m9 py)), (oa zg cI 400 GR1)]) (va_A [(oc5 ro (.ref za) (.ref zw) (.ref zx) (.ref zy) (.ref zg) nv), (oa zx cI 400 EX), (oa zy cI 400 EY), (oa zg cI 400 GR)] sz)) 0 0 (va_A [(oc5 ro (.ref za) (.ref zw) (.ref zx) (.ref zy) (.ref zg) nv), (oa zx cI 400 EX), (oa zy cI 400 EY), (oa zg cI 400 GR)] sz) := by
  refine Met.ofW (cc := cX6_setEnd) (maxL := 5) (ret := none) (by decide) rfl ?_
  intro p e s m args below meth c s₁ B hml hv
  obtain ⟨rfl, hsz, hP, hK, hD0, hXN⟩ := hv
  have hx := B.exec
  have hb := B.bytes
  have hr := B.returns
  have hts0 := atoms_spec (ws := .code yX6_setEnd cX6_setEnd 5 none :: ws0) B.pre
  have hts : ∀ w9 ∈ ws0, w9.before ([.ref ro, .int (nI m9), .int px, .int py] : List Value).toArray s = true := fun w9 h => hts0 w9 (List.mem_cons_of_mem _ h)
  have hown : s.vm.findClass "ScaleShop$Roads" = some m.cls := findClass_of_methodNamed B.named
  have hlocks := B.notSynchronized
  subst hsz
  have hD := hD0.self (sz := s.heap.size)
  clear hD0
  generalize hAe : va_A [(oc5 ro (.ref za) (.ref zw) (.ref zx) (.ref zy) (.ref zg) nv), (oa zx cI 400 EX), (oa zy cI 400 EY), (oa zg cI 400 GR)] s.heap.size = A at hD ⊢
  have hA : ∀ q : Nat, s.heap.size ≤ q → A q := fun q h => by rw [← hAe]; exact Or.inr h
  clear hAe
  have hS : va_S A s.heap s.heap [] := va_S.rf
  have hP : va_P (dC, dI) classes [(oc5 ro (.ref za) (.ref zw) (.ref zx) (.ref zy) (.ref zg) nv), (oa zx cI 400 EX), (oa zy cI 400 EY), (oa zg cI 400 GR)] s.heap := hP
  obtain ⟨Q9, hQ9⟩ : ∃ Q9 : State → Prop, Q9 = MQ below (zQ none (fun t => ∃ (k9 : Nat), ∃ (GR1 : Nat → Int32), (k9 ≤ m9 ∧ GR1 = upd GR m9 (nI k9)) ∧ (((upd EX m9 px) k9).toInt = px.toInt ∧ ((upd EY m9 py) k9).toInt = py.toInt) ∧ (∀ i, i < k9 → ¬ (((upd EX m9 px) i).toInt = px.toInt ∧ ((upd EY m9 py) i).toInt = py.toInt)) ∧ va_P (dC, dI) classes [(oc5 ro (.ref za) (.ref zw) (.ref zx) (.ref zy) (.ref zg) nv), (oa zx cI 400 (upd EX m9 px)), (oa zy cI 400 (upd EY m9 py)), (oa zg cI 400 GR1)] t.heap ∧ va_D A [(oc5 ro (.ref za) (.ref zw) (.ref zx) (.ref zy) (.ref zg) nv), (oa zx cI 400 (upd EX m9 px)), (oa zy cI 400 (upd EY m9 py)), (oa zg cI 400 GR1)]) A) ([.ref ro, .int (nI m9), .int px, .int py] : List Value).toArray s 0 0 A := ⟨_, rfl⟩
  rw [← hQ9]
  have hl := lv_entry ([.ref ro, .int (nI m9), .int px, .int py]) (n := 5) (Nat.le_of_ble_eq_true rfl)
  rw [lg_entry_eq]
  generalize (lg_sl ([.ref ro, .int (nI m9), .int px, .int py]) ++ List.replicate (5 - (lg_sl ([.ref ro, .int (nI m9), .int px, .int py])).length) Slot.unset).toArray = ls at hl ⊢
  have hl : lv_has ls 5 [(0, .ref ro), (1, .int (nI m9)), (2, .int px), (3, .int py)] := hl
  refine lv_aload_n hx hb dX6_setEnd_0 rfl (lv_at hl 0 rfl) ?_
  refine va_get (D := (dC, dI)) (ci := 5) (v := .ref zx) (C := RX6) (T := TX6) (N := 6) hx hb hts inX6 hown hK hP 0 rfl rfl 2 (by decide) (hts _ mw_248) (fun _ h9 => h9) rfl dX6_setEnd_1 ?_
  refine lv_iload_n hx hb dX6_setEnd_4 rfl (lv_at hl 1 rfl) ?_
  refine lv_iload_n hx hb dX6_setEnd_5 rfl (lv_at hl 2 rfl) ?_
  refine z_iast hx hb hK hP hD hS 1 0 rfl rfl (e := m9) (x := px) rfl (by omega) (by omega) dX6_setEnd_6 (fun H locs hP hD hS => ?_)
  have hP : va_P (dC, dI) classes [(oc5 ro (.ref za) (.ref zw) (.ref zx) (.ref zy) (.ref zg) nv), (oa zx cI 400 (upd EX m9 px)), (oa zy cI 400 EY), (oa zg cI 400 GR)] H := hP
  have hD : va_D A [(oc5 ro (.ref za) (.ref zw) (.ref zx) (.ref zy) (.ref zg) nv), (oa zx cI 400 (upd EX m9 px)), (oa zy cI 400 EY), (oa zg cI 400 GR)] := hD
  refine lv_aload_n hx hb dX6_setEnd_7 rfl (lv_at hl 0 rfl) ?_
  refine va_get (D := (dC, dI)) (ci := 5) (v := .ref zy) (C := RX6) (T := TX6) (N := 6) hx hb hts inX6 hown hK hP 0 rfl rfl 3 (by decide) (hts _ mw_249) (fun _ h9 => h9) rfl dX6_setEnd_8 ?_
  refine lv_iload_n hx hb dX6_setEnd_11 rfl (lv_at hl 1 rfl) ?_
  refine lv_iload_n hx hb dX6_setEnd_12 rfl (lv_at hl 3 rfl) ?_
  refine z_iast hx hb hK hP hD hS 2 0 rfl rfl (e := m9) (x := py) rfl (by omega) (by omega) dX6_setEnd_13 (fun H locs hP hD hS => ?_)
  have hP : va_P (dC, dI) classes [(oc5 ro (.ref za) (.ref zw) (.ref zx) (.ref zy) (.ref zg) nv), (oa zx cI 400 (upd EX m9 px)), (oa zy cI 400 (upd EY m9 py)), (oa zg cI 400 GR)] H := hP
  have hD : va_D A [(oc5 ro (.ref za) (.ref zw) (.ref zx) (.ref zy) (.ref zg) nv), (oa zx cI 400 (upd EX m9 px)), (oa zy cI 400 (upd EY m9 py)), (oa zg cI 400 GR)] := hD
  refine lv_iconst (v := 0) hx hb dX6_setEnd_14 (by decide) ?_
  refine lv_istore (lv' := [(4, .int 0), (0, .ref ro), (1, .int (nI m9)), (2, .int px), (3, .int py)]) hx hb dX6_setEnd_15 hl (by decide) rfl (fun ls hl => ?_)
  have hl_17 : ∀ (n9 : Nat) (k5 : Nat) (H : Heap) (locs : List Loc) (ls : Array Slot), m9 - k5 < n9 → (k5 ≤ m9) → (∀ i, i < k5 → ¬ (((upd EX m9 px) i).toInt = px.toInt ∧ ((upd EY m9 py) i).toInt = py.toInt)) → va_P (dC, dI) classes [(oc5 ro (.ref za) (.ref zw) (.ref zx) (.ref zy) (.ref zg) nv), (oa zx cI 400 (upd EX m9 px)), (oa zy cI 400 (upd EY m9 py)), (oa zg cI 400 GR)] H → va_D A [(oc5 ro (.ref za) (.ref zw) (.ref zx) (.ref zy) (.ref zg) nv), (oa zx cI 400 (upd EX m9 px)), (oa zy cI 400 (upd EY m9 py)), (oa zg cI 400 GR)] → va_S A s.heap H locs → lv_has ls 5 [(4, .int (nI k5)), (0, .ref ro), (1, .int (nI m9)), (2, .int px), (3, .int py)] → W p l e ((headSpec (.code yX6_setEnd cX6_setEnd 5 none :: ws0) ({ frames := 0, cells := 0, slots := 0, locals := 0 } : Room)).room) s m ([.ref ro, .int (nI m9), .int px, .int py] : List Value).toArray below meth c H locs 0 0 Q9 (F0 m 17 ls []) := by
    intro n9
    induction n9 with
    | zero => intro k5 H locs ls hm; exact absurd hm (Nat.not_lt_zero _)
    | succ n9 ih_17 =>
      intro k5 H locs ls hm hk5 hno hP hD hS hl
      refine lv_iload hx hb dX6_setEnd_17 (lv_at hl 0 rfl) ?_
      refine lv_iload_n hx hb dX6_setEnd_19 rfl (lv_at hl 2 rfl) ?_
      refine lv_icmp_ge (tgt := 51) hx hb dX6_setEnd_20 (by decide) (fun c_1 => ?_) (fun c_1 => ?_)
      · have c_1 : ((m9 : Nat) : Int) ≤ ((k5 : Nat) : Int) := zc_le (nI_toInt (by omega)) (nI_toInt (by omega)) c_1
        refine lv_aload_n hx hb dX6_setEnd_51 rfl (lv_at hl 1 rfl) ?_
        refine va_get (D := (dC, dI)) (ci := 5) (v := .ref zg) (C := RX6) (T := TX6) (N := 6) hx hb hts inX6 hown hK hP 0 rfl rfl 4 (by decide) (hts _ mw_250) (fun _ h9 => h9) rfl dX6_setEnd_52 ?_
        refine lv_iload_n hx hb dX6_setEnd_55 rfl (lv_at hl 2 rfl) ?_
        refine lv_iload hx hb dX6_setEnd_56 (lv_at hl 0 rfl) ?_
        refine z_iast hx hb hK hP hD hS 3 0 rfl rfl (e := m9) (x := nI k5) rfl (by omega) (by omega) dX6_setEnd_58 (fun H locs hP hD hS => ?_)
        have hP : va_P (dC, dI) classes [(oc5 ro (.ref za) (.ref zw) (.ref zx) (.ref zy) (.ref zg) nv), (oa zx cI 400 (upd EX m9 px)), (oa zy cI 400 (upd EY m9 py)), (oa zg cI 400 (upd GR m9 (nI k5)))] H := hP
        have hD : va_D A [(oc5 ro (.ref za) (.ref zw) (.ref zx) (.ref zy) (.ref zg) nv), (oa zx cI 400 (upd EX m9 px)), (oa zy cI 400 (upd EY m9 py)), (oa zg cI 400 (upd GR m9 (nI k5)))] := hD
        have hpq : ((upd EX m9 px) k5).toInt = px.toInt ∧ ((upd EY m9 py) k5).toInt = py.toInt := (by first | (rw [show k5 = m9 by omega, up_at, up_at]; exact ⟨rfl, rfl⟩) | exact ⟨by assumption, by assumption⟩)
        have hP9 := hP.sub (ws' := [(oc5 ro (.ref za) (.ref zw) (.ref zx) (.ref zy) (.ref zg) nv), (oa zx cI 400 (upd EX m9 px)), (oa zy cI 400 (upd EY m9 py)), (oa zg cI 400 (upd GR m9 (nI k5)))]) [0, 1, 2, 3] rfl
        have hD9 := hD.sub (ws' := [(oc5 ro (.ref za) (.ref zw) (.ref zx) (.ref zy) (.ref zg) nv), (oa zx cI 400 (upd EX m9 px)), (oa zy cI 400 (upd EY m9 py)), (oa zg cI 400 (upd GR m9 (nI k5)))]) [0, 1, 2, 3] (by decide) rfl
        rw [hQ9]
        exact W.vret hx hb hr (fun t ht hW => ⟨⟨rfl, k5, (upd GR m9 (nI k5)), (⟨by omega, rfl⟩), (hpq), (hno), by rw [ht]; exact hP9, hD9⟩, hS.F ht⟩) hS.2.2 dX6_setEnd_59
      · have c_1 : ((k5 : Nat) : Int) < ((m9 : Nat) : Int) := zc_nle (nI_toInt (by omega)) (nI_toInt (by omega)) c_1
        refine lv_aload_n hx hb dX6_setEnd_23 rfl (lv_at hl 1 rfl) ?_
        refine va_get (D := (dC, dI)) (ci := 5) (v := .ref zx) (C := RX6) (T := TX6) (N := 6) hx hb hts inX6 hown hK hP 0 rfl rfl 2 (by decide) (hts _ mw_248) (fun _ h9 => h9) rfl dX6_setEnd_24 ?_
        refine lv_iload hx hb dX6_setEnd_27 (lv_at hl 0 rfl) ?_
        refine z_iald hx hb hK hP 1 0 rfl rfl (e := k5) rfl (by omega) (by omega) dX6_setEnd_29 ?_
        refine lv_iload_n hx hb dX6_setEnd_30 rfl (lv_at hl 3 rfl) ?_
        refine lv_icmp_ne (tgt := 45) hx hb dX6_setEnd_31 (by decide) (fun c_2 => ?_) (fun c_2 => ?_)
        · have c_2 : ¬ ((upd EX m9 px) k5).toInt = px.toInt := zc_ne rfl rfl c_2
          refine lv_iinc (v := nI (k5 + 1)) (lv' := [(4, .int (nI (k5 + 1))), (0, .ref ro), (1, .int (nI m9)), (2, .int px), (3, .int py)]) hx hb dX6_setEnd_45 hl (k := 0) rfl (nI_add k5 1) (by decide) rfl (fun ls hl => ?_)
          refine lv_goto (tgt := 17) hx hb dX6_setEnd_48 (by decide) ?_
          exact ih_17 (k5 + 1) H locs ls (by omega) (by omega) (by intro i hi; rcases Nat.lt_or_ge i k5 with h | h; exact hno i h; rw [show i = k5 by omega]; omega) hP hD hS (lv_sub hl [0, 1, 2, 3, 4] rfl)
        · have c_2 : ((upd EX m9 px) k5).toInt = px.toInt := zc_eq rfl rfl c_2
          refine lv_aload_n hx hb dX6_setEnd_34 rfl (lv_at hl 1 rfl) ?_
          refine va_get (D := (dC, dI)) (ci := 5) (v := .ref zy) (C := RX6) (T := TX6) (N := 6) hx hb hts inX6 hown hK hP 0 rfl rfl 3 (by decide) (hts _ mw_249) (fun _ h9 => h9) rfl dX6_setEnd_35 ?_
          refine lv_iload hx hb dX6_setEnd_38 (lv_at hl 0 rfl) ?_
          refine z_iald hx hb hK hP 2 0 rfl rfl (e := k5) rfl (by omega) (by omega) dX6_setEnd_40 ?_
          refine lv_iload_n hx hb dX6_setEnd_41 rfl (lv_at hl 4 rfl) ?_
          refine lv_icmp_eq (tgt := 51) hx hb dX6_setEnd_42 (by decide) (fun c_3 => ?_) (fun c_3 => ?_)
          · have c_3 : ((upd EY m9 py) k5).toInt = py.toInt := zc_eq rfl rfl c_3
            refine lv_aload_n hx hb dX6_setEnd_51 rfl (lv_at hl 1 rfl) ?_
            refine va_get (D := (dC, dI)) (ci := 5) (v := .ref zg) (C := RX6) (T := TX6) (N := 6) hx hb hts inX6 hown hK hP 0 rfl rfl 4 (by decide) (hts _ mw_250) (fun _ h9 => h9) rfl dX6_setEnd_52 ?_
            refine lv_iload_n hx hb dX6_setEnd_55 rfl (lv_at hl 2 rfl) ?_
            refine lv_iload hx hb dX6_setEnd_56 (lv_at hl 0 rfl) ?_
            refine z_iast hx hb hK hP hD hS 3 0 rfl rfl (e := m9) (x := nI k5) rfl (by omega) (by omega) dX6_setEnd_58 (fun H locs hP hD hS => ?_)
            have hP : va_P (dC, dI) classes [(oc5 ro (.ref za) (.ref zw) (.ref zx) (.ref zy) (.ref zg) nv), (oa zx cI 400 (upd EX m9 px)), (oa zy cI 400 (upd EY m9 py)), (oa zg cI 400 (upd GR m9 (nI k5)))] H := hP
            have hD : va_D A [(oc5 ro (.ref za) (.ref zw) (.ref zx) (.ref zy) (.ref zg) nv), (oa zx cI 400 (upd EX m9 px)), (oa zy cI 400 (upd EY m9 py)), (oa zg cI 400 (upd GR m9 (nI k5)))] := hD
            have hpq : ((upd EX m9 px) k5).toInt = px.toInt ∧ ((upd EY m9 py) k5).toInt = py.toInt := (by first | (rw [show k5 = m9 by omega, up_at, up_at]; exact ⟨rfl, rfl⟩) | exact ⟨by assumption, by assumption⟩)
            have hP9 := hP.sub (ws' := [(oc5 ro (.ref za) (.ref zw) (.ref zx) (.ref zy) (.ref zg) nv), (oa zx cI 400 (upd EX m9 px)), (oa zy cI 400 (upd EY m9 py)), (oa zg cI 400 (upd GR m9 (nI k5)))]) [0, 1, 2, 3] rfl
            have hD9 := hD.sub (ws' := [(oc5 ro (.ref za) (.ref zw) (.ref zx) (.ref zy) (.ref zg) nv), (oa zx cI 400 (upd EX m9 px)), (oa zy cI 400 (upd EY m9 py)), (oa zg cI 400 (upd GR m9 (nI k5)))]) [0, 1, 2, 3] (by decide) rfl
            rw [hQ9]
            exact W.vret hx hb hr (fun t ht hW => ⟨⟨rfl, k5, (upd GR m9 (nI k5)), (⟨by omega, rfl⟩), (hpq), (hno), by rw [ht]; exact hP9, hD9⟩, hS.F ht⟩) hS.2.2 dX6_setEnd_59
          · have c_3 : ¬ ((upd EY m9 py) k5).toInt = py.toInt := zc_ne rfl rfl c_3
            refine lv_iinc (v := nI (k5 + 1)) (lv' := [(4, .int (nI (k5 + 1))), (0, .ref ro), (1, .int (nI m9)), (2, .int px), (3, .int py)]) hx hb dX6_setEnd_45 hl (k := 0) rfl (nI_add k5 1) (by decide) rfl (fun ls hl => ?_)
            refine lv_goto (tgt := 17) hx hb dX6_setEnd_48 (by decide) ?_
            exact ih_17 (k5 + 1) H locs ls (by omega) (by omega) (by intro i hi; rcases Nat.lt_or_ge i k5 with h | h; exact hno i h; rw [show i = k5 by omega]; omega) hP hD hS (lv_sub hl [0, 1, 2, 3, 4] rfl)
  exact hl_17 _ 0 H locs ls (Nat.lt_succ_self _) (by omega) (by intro i hi; omega) hP hD hS (lv_sub hl [0, 1, 2, 3, 4] rfl)
set_option maxHeartbeats 4000000 in
set_option maxRecDepth 100000 in
theorem k_Roads_unite (l : Launch) (dC : Nat → ClassId) (dI : Nat → Nat → Nat) (cI cZ cF : ClassId) (sz : Nat) (ro : Nat) (za : Nat) (zw : Nat) (zx : Nat) (zy : Nat) (zg : Nat) (n : Nat) (A9 : Int32) (B9 : Int32) (GR : Nat → Int32) (hn : n ≤ 200) : Met l yX6_uniteGroups (.code yX6_uniteGroups cX6_uniteGroups 4 none :: ws0) ({ frames := 0, cells := 0, slots := 0, locals := 0 } : Room) (va_Pc [.ref ro, .int A9, .int B9] (zPre (dC, dI) classes (zTy cI cZ cF) [(oc5 ro (.ref za) (.ref zw) (.ref zx) (.ref zy) (.ref zg) (nI n)), (oa zg cI 400 GR)] sz zXN)) (zQ none (fun t => ∃ (GR1 : Nat → Int32), (∀ k, k < 2 * n → GR1 k = if GR k = B9 then A9 else GR k) ∧ va_P (dC, dI) classes [(oc5 ro (.ref za) (.ref zw) (.ref zx) (.ref zy) (.ref zg) (nI n)), (oa zg cI 400 GR1)] t.heap ∧ va_D (va_A [(oc5 ro (.ref za) (.ref zw) (.ref zx) (.ref zy) (.ref zg) (nI n)), (oa zg cI 400 GR)] sz) [(oc5 ro (.ref za) (.ref zw) (.ref zx) (.ref zy) (.ref zg) (nI n)), (oa zg cI 400 GR1)]) (va_A [(oc5 ro (.ref za) (.ref zw) (.ref zx) (.ref zy) (.ref zg) (nI n)), (oa zg cI 400 GR)] sz)) 0 0 (va_A [(oc5 ro (.ref za) (.ref zw) (.ref zx) (.ref zy) (.ref zg) (nI n)), (oa zg cI 400 GR)] sz) := by
  refine Met.ofW (cc := cX6_uniteGroups) (maxL := 4) (ret := none) (by decide) rfl ?_
  intro p e s m args below meth c s₁ B hml hv
  obtain ⟨rfl, hsz, hP, hK, hD0, hXN⟩ := hv
  have hx := B.exec
  have hb := B.bytes
  have hr := B.returns
  have hts0 := atoms_spec (ws := .code yX6_uniteGroups cX6_uniteGroups 4 none :: ws0) B.pre
  have hts : ∀ w9 ∈ ws0, w9.before ([.ref ro, .int A9, .int B9] : List Value).toArray s = true := fun w9 h => hts0 w9 (List.mem_cons_of_mem _ h)
  have hown : s.vm.findClass "ScaleShop$Roads" = some m.cls := findClass_of_methodNamed B.named
  have hlocks := B.notSynchronized
  subst hsz
  have hD := hD0.self (sz := s.heap.size)
  clear hD0
  generalize hAe : va_A [(oc5 ro (.ref za) (.ref zw) (.ref zx) (.ref zy) (.ref zg) (nI n)), (oa zg cI 400 GR)] s.heap.size = A at hD ⊢
  have hA : ∀ q : Nat, s.heap.size ≤ q → A q := fun q h => by rw [← hAe]; exact Or.inr h
  clear hAe
  have hS : va_S A s.heap s.heap [] := va_S.rf
  have hP : va_P (dC, dI) classes [(oc5 ro (.ref za) (.ref zw) (.ref zx) (.ref zy) (.ref zg) (nI n)), (oa zg cI 400 GR)] s.heap := hP
  obtain ⟨Q9, hQ9⟩ : ∃ Q9 : State → Prop, Q9 = MQ below (zQ none (fun t => ∃ (GR1 : Nat → Int32), (∀ k, k < 2 * n → GR1 k = if GR k = B9 then A9 else GR k) ∧ va_P (dC, dI) classes [(oc5 ro (.ref za) (.ref zw) (.ref zx) (.ref zy) (.ref zg) (nI n)), (oa zg cI 400 GR1)] t.heap ∧ va_D A [(oc5 ro (.ref za) (.ref zw) (.ref zx) (.ref zy) (.ref zg) (nI n)), (oa zg cI 400 GR1)]) A) ([.ref ro, .int A9, .int B9] : List Value).toArray s 0 0 A := ⟨_, rfl⟩
  rw [← hQ9]
  have hl := lv_entry ([.ref ro, .int A9, .int B9]) (n := 4) (Nat.le_of_ble_eq_true rfl)
  rw [lg_entry_eq]
  generalize (lg_sl ([.ref ro, .int A9, .int B9]) ++ List.replicate (4 - (lg_sl ([.ref ro, .int A9, .int B9])).length) Slot.unset).toArray = ls at hl ⊢
  have hl : lv_has ls 4 [(0, .ref ro), (1, .int A9), (2, .int B9)] := hl
  refine lv_iconst (v := 0) hx hb dX6_uniteGroups_0 (by decide) ?_
  refine lv_istore_n (lv' := [(3, .int 0), (0, .ref ro), (1, .int A9), (2, .int B9)]) hx hb dX6_uniteGroups_1 rfl hl (by decide) rfl (fun ls hl => ?_)
  have hl_2 : ∀ (n9 : Nat) (k5 : Nat) (GRk : Nat → Int32) (H : Heap) (locs : List Loc) (ls : Array Slot), 2 * n - k5 < n9 → (k5 ≤ 2 * n) → (∀ j, j < k5 → GRk j = if GR j = B9 then A9 else GR j) → (∀ j, k5 ≤ j → GRk j = GR j) → va_P (dC, dI) classes [(oc5 ro (.ref za) (.ref zw) (.ref zx) (.ref zy) (.ref zg) (nI n)), (oa zg cI 400 GRk)] H → va_D A [(oc5 ro (.ref za) (.ref zw) (.ref zx) (.ref zy) (.ref zg) (nI n)), (oa zg cI 400 GRk)] → va_S A s.heap H locs → lv_has ls 4 [(3, .int (nI k5)), (0, .ref ro), (1, .int A9), (2, .int B9)] → W p l e ((headSpec (.code yX6_uniteGroups cX6_uniteGroups 4 none :: ws0) ({ frames := 0, cells := 0, slots := 0, locals := 0 } : Room)).room) s m ([.ref ro, .int A9, .int B9] : List Value).toArray below meth c H locs 0 0 Q9 (F0 m 2 ls []) := by
    intro n9
    induction n9 with
    | zero => intro k5 GRk H locs ls hm; exact absurd hm (Nat.not_lt_zero _)
    | succ n9 ih_2 =>
      intro k5 GRk H locs ls hm hk5 hg1 hg2 hP hD hS hl
      refine lv_iload_n hx hb dX6_uniteGroups_2 rfl (lv_at hl 0 rfl) ?_
      refine lv_iconst (v := 2) hx hb dX6_uniteGroups_3 (by decide) ?_
      refine lv_aload_n hx hb dX6_uniteGroups_4 rfl (lv_at hl 1 rfl) ?_
      refine va_get (D := (dC, dI)) (ci := 5) (v := .int (nI n)) (C := RX6) (T := TX6) (N := 6) hx hb hts inX6 hown hK hP 0 rfl rfl 5 (by decide) (hts _ mw_251) (fun _ h9 => h9) rfl dX6_uniteGroups_5 ?_
      refine lv_imul hx hb dX6_uniteGroups_8 ?_
      refine zz_i (v := nI (2 * n)) (pk_mul 2 n) ?_
      refine lv_icmp_ge (tgt := 35) hx hb dX6_uniteGroups_9 (by decide) (fun c_1 => ?_) (fun c_1 => ?_)
      · have c_1 : ((2 * n : Nat) : Int) ≤ ((k5 : Nat) : Int) := zc_le (nI_toInt (by omega)) (nI_toInt (by omega)) c_1
        have hke : k5 = 2 * n := (by omega)
        rw [hke] at hg1
        have hP9 := hP.sub (ws' := [(oc5 ro (.ref za) (.ref zw) (.ref zx) (.ref zy) (.ref zg) (nI n)), (oa zg cI 400 GRk)]) [0, 1] rfl
        have hD9 := hD.sub (ws' := [(oc5 ro (.ref za) (.ref zw) (.ref zx) (.ref zy) (.ref zg) (nI n)), (oa zg cI 400 GRk)]) [0, 1] (by decide) rfl
        rw [hQ9]
        exact W.vret hx hb hr (fun t ht hW => ⟨⟨rfl, GRk, (hg1), by rw [ht]; exact hP9, hD9⟩, hS.F ht⟩) hS.2.2 dX6_uniteGroups_35
      · have c_1 : ((k5 : Nat) : Int) < ((2 * n : Nat) : Int) := zc_nle (nI_toInt (by omega)) (nI_toInt (by omega)) c_1
        refine lv_aload_n hx hb dX6_uniteGroups_12 rfl (lv_at hl 1 rfl) ?_
        refine va_get (D := (dC, dI)) (ci := 5) (v := .ref zg) (C := RX6) (T := TX6) (N := 6) hx hb hts inX6 hown hK hP 0 rfl rfl 4 (by decide) (hts _ mw_250) (fun _ h9 => h9) rfl dX6_uniteGroups_13 ?_
        refine lv_iload_n hx hb dX6_uniteGroups_16 rfl (lv_at hl 0 rfl) ?_
        refine z_iald hx hb hK hP 1 0 rfl rfl (e := k5) rfl (by omega) (by omega) dX6_uniteGroups_17 ?_
        refine lv_iload_n hx hb dX6_uniteGroups_18 rfl (lv_at hl 3 rfl) ?_
        refine lv_icmp_ne (tgt := 29) hx hb dX6_uniteGroups_19 (by decide) (fun c_2 => ?_) (fun c_2 => ?_)
        · have c_2 : ¬ (GRk k5).toInt = B9.toInt := zc_ne rfl rfl c_2
          refine lv_iinc (v := nI (k5 + 1)) (lv' := [(3, .int (nI (k5 + 1))), (0, .ref ro), (1, .int A9), (2, .int B9)]) hx hb dX6_uniteGroups_29 hl (k := 0) rfl (nI_add k5 1) (by decide) rfl (fun ls hl => ?_)
          refine lv_goto (tgt := 2) hx hb dX6_uniteGroups_32 (by decide) ?_
          exact ih_2 (k5 + 1) GRk H locs ls (by omega) (by omega) (by first | exact chG_s hg1 (hg2 k5 (Nat.le_refl _)) (Or.inl ⟨by assumption, rfl⟩) | exact unG_n hg1 (hg2 k5 (Nat.le_refl _)) (by assumption)) (by first | exact fun j hj => (if_neg (by omega)).trans (hg2 j (by omega)) | exact fun j hj => hg2 j (by omega)) hP hD hS (lv_sub hl [0, 1, 2, 3] rfl)
        · have c_2 : (GRk k5).toInt = B9.toInt := zc_eq rfl rfl c_2
          refine lv_aload_n hx hb dX6_uniteGroups_22 rfl (lv_at hl 1 rfl) ?_
          refine va_get (D := (dC, dI)) (ci := 5) (v := .ref zg) (C := RX6) (T := TX6) (N := 6) hx hb hts inX6 hown hK hP 0 rfl rfl 4 (by decide) (hts _ mw_250) (fun _ h9 => h9) rfl dX6_uniteGroups_23 ?_
          refine lv_iload_n hx hb dX6_uniteGroups_26 rfl (lv_at hl 0 rfl) ?_
          refine lv_iload_n hx hb dX6_uniteGroups_27 rfl (lv_at hl 2 rfl) ?_
          refine z_iast hx hb hK hP hD hS 1 0 rfl rfl (e := k5) (x := A9) rfl (by omega) (by omega) dX6_uniteGroups_28 (fun H locs hP hD hS => ?_)
          have hP : va_P (dC, dI) classes [(oc5 ro (.ref za) (.ref zw) (.ref zx) (.ref zy) (.ref zg) (nI n)), (oa zg cI 400 (upd GRk k5 A9))] H := hP
          have hD : va_D A [(oc5 ro (.ref za) (.ref zw) (.ref zx) (.ref zy) (.ref zg) (nI n)), (oa zg cI 400 (upd GRk k5 A9))] := hD
          refine lv_iinc (v := nI (k5 + 1)) (lv' := [(3, .int (nI (k5 + 1))), (0, .ref ro), (1, .int A9), (2, .int B9)]) hx hb dX6_uniteGroups_29 hl (k := 0) rfl (nI_add k5 1) (by decide) rfl (fun ls hl => ?_)
          refine lv_goto (tgt := 2) hx hb dX6_uniteGroups_32 (by decide) ?_
          exact ih_2 (k5 + 1) (upd GRk k5 A9) H locs ls (by omega) (by omega) (by first | exact chG_s hg1 (hg2 k5 (Nat.le_refl _)) (Or.inl ⟨by assumption, rfl⟩) | exact unG_n hg1 (hg2 k5 (Nat.le_refl _)) (by assumption)) (by first | exact fun j hj => (if_neg (by omega)).trans (hg2 j (by omega)) | exact fun j hj => hg2 j (by omega)) hP hD hS (lv_sub hl [0, 1, 2, 3] rfl)
  exact hl_2 _ 0 GR s.heap [] ls (Nat.lt_succ_self _) (by omega) (by intro j hj; omega) (fun j _ => rfl) hP hD hS (lv_sub hl [0, 1, 2, 3] rfl)
set_option maxHeartbeats 4000000 in
set_option maxRecDepth 100000 in
theorem k_Roads_gather (l : Launch) (dC : Nat → ClassId) (dI : Nat → Nat → Nat) (cI cZ cF : ClassId) (sz : Nat) (ro : Nat) (sh : Nat) (za : Nat) (zw : Nat) (zx : Nat) (zy : Nat) (zg : Nat) (nv : Int32) (fa : Nat) (ft : Nat) (FA : Nat → Option Nat) (RA : Nat → Option Nat) (WT : Nat → Int32) (EX : Nat → Int32) (EY : Nat → Int32) (GR : Nat → Int32) (L : List Nat) (f : Nat → va_E) (kd : Nat → Int32) (st : Nat → Int32) (tn : Nat → Int32) (mn : Nat → Int32) (cx : Nat → Int32) (cy : Nat → Int32) (rk : Nat → Int32) (wd : Nat → Int32) (tw : Nat → Int32) (pa : Nat → Int32) (pb : Nat → Int32) (gb : Nat → Int32) (it : Nat → Int32) (own : Nat → Nat) (fe : Nat → Nat) (cl : Nat → Nat) (nw : Nat → Nat) (md : Nat → Nat) (fm : Nat → Value) (h200 : ft ≤ 200) (hF : FeA cI L f own ft fe nw cl fm rk wd tw pa pb) (hN : NwA cI L f own ft nw cl md kd st gb it tn mn cx cy) (hAf : ∀ q, q < ft → FA q = some (fe q)) (hwf : ∀ q, lvF ft st tn q → wfM mn cx cy q) (hkn : okN ft st tn kd mn) (hrk : ∀ q, lvF ft st tn q → 0 ≤ (rk q).toInt ∧ (rk q).toInt ≤ 9) (hva : ∀ q, q < ft → vwA cI L f FA rk wd tw pa pb kd st gb it tn mn cx cy q) : Met l yX6_gather (.code yX6_gather cX6_gather 5 none :: ws0) ({ frames := 2, cells := 0, slots := 0, locals := 43 } : Room) (va_Pc [.ref ro, .ref sh] (zPre (dC, dI) classes (zTy cI cZ cF) ([(oc5 ro (.ref za) (.ref zw) (.ref zx) (.ref zy) (.ref zg) nv), (oq za cF 200 RA), (oa zw cI 200 WT), (oa zx cI 400 EX), (oa zy cI 400 EY), (oa zg cI 400 GR), (oc7 sh (.ref fa) (nI ft)), (oq fa cF 200 FA)] ++ va_pl L f) sz zXN)) (zQ none (fun t => ∃ (n1 : Nat), ∃ (rd1 : Nat → Nat), ∃ (RA1 : Nat → Option Nat), ∃ (WT1 : Nat → Int32), ∃ (EX1 : Nat → Int32), ∃ (EY1 : Nat → Int32), ∃ (GR1 : Nat → Int32), (n1 ≤ ft) ∧ (rdS (rdF ft st tn kd) (chW rk mn cx cy) ft n1 rd1) ∧ (∀ k, k < n1 → RA1 k = some (fe (rd1 k))) ∧ (grI (fun j => (EX1 j, EY1 j)) GR1 (2 * n1)) ∧ (∀ k, k < n1 → (EX1 (2 * k), EY1 (2 * k)) = chB cx cy (rd1 k) ∧ (EX1 (2 * k + 1), EY1 (2 * k + 1)) = chL mn cx cy (rd1 k)) ∧ va_P (dC, dI) classes ([(oc5 ro (.ref za) (.ref zw) (.ref zx) (.ref zy) (.ref zg) (nI n1)), (oq za cF 200 RA1), (oa zw cI 200 WT1), (oa zx cI 400 EX1), (oa zy cI 400 EY1), (oa zg cI 400 GR1), (oc7 sh (.ref fa) (nI ft)), (oq fa cF 200 FA)] ++ va_pl L f) t.heap ∧ va_D (va_A ([(oc5 ro (.ref za) (.ref zw) (.ref zx) (.ref zy) (.ref zg) nv), (oq za cF 200 RA), (oa zw cI 200 WT), (oa zx cI 400 EX), (oa zy cI 400 EY), (oa zg cI 400 GR), (oc7 sh (.ref fa) (nI ft)), (oq fa cF 200 FA)] ++ va_pl L f) sz) ([(oc5 ro (.ref za) (.ref zw) (.ref zx) (.ref zy) (.ref zg) (nI n1)), (oq za cF 200 RA1), (oa zw cI 200 WT1), (oa zx cI 400 EX1), (oa zy cI 400 EY1), (oa zg cI 400 GR1), (oc7 sh (.ref fa) (nI ft)), (oq fa cF 200 FA)] ++ va_pl L f)) (va_A ([(oc5 ro (.ref za) (.ref zw) (.ref zx) (.ref zy) (.ref zg) nv), (oq za cF 200 RA), (oa zw cI 200 WT), (oa zx cI 400 EX), (oa zy cI 400 EY), (oa zg cI 400 GR), (oc7 sh (.ref fa) (nI ft)), (oq fa cF 200 FA)] ++ va_pl L f) sz)) 0 0 (va_A ([(oc5 ro (.ref za) (.ref zw) (.ref zx) (.ref zy) (.ref zg) nv), (oq za cF 200 RA), (oa zw cI 200 WT), (oa zx cI 400 EX), (oa zy cI 400 EY), (oa zg cI 400 GR), (oc7 sh (.ref fa) (nI ft)), (oq fa cF 200 FA)] ++ va_pl L f) sz) := by
  refine Met.ofW (cc := cX6_gather) (maxL := 5) (ret := none) (by decide) rfl ?_
  intro p e s m args below meth c s₁ B hml hv
  obtain ⟨rfl, hsz, hP, hK, hD0, hXN⟩ := hv
  have hx := B.exec
  have hb := B.bytes
  have hr := B.returns
  have hts0 := atoms_spec (ws := .code yX6_gather cX6_gather 5 none :: ws0) B.pre
  have hts : ∀ w9 ∈ ws0, w9.before ([.ref ro, .ref sh] : List Value).toArray s = true := fun w9 h => hts0 w9 (List.mem_cons_of_mem _ h)
  have hown : s.vm.findClass "ScaleShop$Roads" = some m.cls := findClass_of_methodNamed B.named
  have hlocks := B.notSynchronized
  subst hsz
  have hD := hD0.self (sz := s.heap.size)
  clear hD0
  generalize hAe : va_A ([(oc5 ro (.ref za) (.ref zw) (.ref zx) (.ref zy) (.ref zg) nv), (oq za cF 200 RA), (oa zw cI 200 WT), (oa zx cI 400 EX), (oa zy cI 400 EY), (oa zg cI 400 GR), (oc7 sh (.ref fa) (nI ft)), (oq fa cF 200 FA)] ++ va_pl L f) s.heap.size = A at hD ⊢
  have hA : ∀ q : Nat, s.heap.size ≤ q → A q := fun q h => by rw [← hAe]; exact Or.inr h
  clear hAe
  have hS : va_S A s.heap s.heap [] := va_S.rf
  have hP : va_P (dC, dI) classes ([(oc5 ro (.ref za) (.ref zw) (.ref zx) (.ref zy) (.ref zg) nv), (oq za cF 200 RA), (oa zw cI 200 WT), (oa zx cI 400 EX), (oa zy cI 400 EY), (oa zg cI 400 GR), (oc7 sh (.ref fa) (nI ft)), (oq fa cF 200 FA)] ++ va_pl L f) s.heap := hP
  obtain ⟨Q9, hQ9⟩ : ∃ Q9 : State → Prop, Q9 = MQ below (zQ none (fun t => ∃ (n1 : Nat), ∃ (rd1 : Nat → Nat), ∃ (RA1 : Nat → Option Nat), ∃ (WT1 : Nat → Int32), ∃ (EX1 : Nat → Int32), ∃ (EY1 : Nat → Int32), ∃ (GR1 : Nat → Int32), (n1 ≤ ft) ∧ (rdS (rdF ft st tn kd) (chW rk mn cx cy) ft n1 rd1) ∧ (∀ k, k < n1 → RA1 k = some (fe (rd1 k))) ∧ (grI (fun j => (EX1 j, EY1 j)) GR1 (2 * n1)) ∧ (∀ k, k < n1 → (EX1 (2 * k), EY1 (2 * k)) = chB cx cy (rd1 k) ∧ (EX1 (2 * k + 1), EY1 (2 * k + 1)) = chL mn cx cy (rd1 k)) ∧ va_P (dC, dI) classes ([(oc5 ro (.ref za) (.ref zw) (.ref zx) (.ref zy) (.ref zg) (nI n1)), (oq za cF 200 RA1), (oa zw cI 200 WT1), (oa zx cI 400 EX1), (oa zy cI 400 EY1), (oa zg cI 400 GR1), (oc7 sh (.ref fa) (nI ft)), (oq fa cF 200 FA)] ++ va_pl L f) t.heap ∧ va_D A ([(oc5 ro (.ref za) (.ref zw) (.ref zx) (.ref zy) (.ref zg) (nI n1)), (oq za cF 200 RA1), (oa zw cI 200 WT1), (oa zx cI 400 EX1), (oa zy cI 400 EY1), (oa zg cI 400 GR1), (oc7 sh (.ref fa) (nI ft)), (oq fa cF 200 FA)] ++ va_pl L f)) A) ([.ref ro, .ref sh] : List Value).toArray s 0 0 A := ⟨_, rfl⟩
  rw [← hQ9]
  have hl := lv_entry ([.ref ro, .ref sh]) (n := 5) (Nat.le_of_ble_eq_true rfl)
  rw [lg_entry_eq]
  generalize (lg_sl ([.ref ro, .ref sh]) ++ List.replicate (5 - (lg_sl ([.ref ro, .ref sh])).length) Slot.unset).toArray = ls at hl ⊢
  have hl : lv_has ls 5 [(0, .ref ro), (1, .ref sh)] := hl
  refine lv_aload_n hx hb dX6_gather_0 rfl (lv_at hl 0 rfl) ?_
  refine lv_iconst (v := 0) hx hb dX6_gather_1 (by decide) ?_
  refine va_put (D := (dC, dI)) (ci := 5) (v := .int 0) (ty := .int) (C := RX6) (T := TX6) (N := 6) hx hb hts inX6 tyX6 tyX6_ok nmX6 hown hK hP hD hS 0 rfl rfl 5 (by decide) (hts _ mw_251) (fun _ h9 => h9) rfl (by decide +kernel) rfl rfl (Nat.le_of_ble_eq_true rfl) dX6_gather_2 (fun H locs hP hD hS => ?_)
  have hP : va_P (dC, dI) classes ([(oc5 ro (.ref za) (.ref zw) (.ref zx) (.ref zy) (.ref zg) 0), (oq za cF 200 RA), (oa zw cI 200 WT), (oa zx cI 400 EX), (oa zy cI 400 EY), (oa zg cI 400 GR), (oc7 sh (.ref fa) (nI ft)), (oq fa cF 200 FA)] ++ va_pl L f) H := hP
  have hD : va_D A ([(oc5 ro (.ref za) (.ref zw) (.ref zx) (.ref zy) (.ref zg) 0), (oq za cF 200 RA), (oa zw cI 200 WT), (oa zx cI 400 EX), (oa zy cI 400 EY), (oa zg cI 400 GR), (oc7 sh (.ref fa) (nI ft)), (oq fa cF 200 FA)] ++ va_pl L f) := hD
  refine lv_iconst (v := 0) hx hb dX6_gather_5 (by decide) ?_
  refine lv_istore_n (lv' := [(2, .int 0), (0, .ref ro), (1, .ref sh)]) hx hb dX6_gather_6 rfl hl (by decide) rfl (fun ls hl => ?_)
  have hl_7 : ∀ (n9 : Nat) (g5 : Nat) (n5 : Nat) (rd5 : Nat → Nat) (RAk : Nat → Option Nat) (WTk : Nat → Int32) (H : Heap) (locs : List Loc) (ls : Array Slot), ft - g5 < n9 → (g5 ≤ ft ∧ n5 ≤ g5) → (rdS (rdF ft st tn kd) (chW rk mn cx cy) g5 n5 rd5) → (∀ k, k < n5 → RAk k = some (fe (rd5 k)) ∧ WTk k = nI (chW rk mn cx cy (rd5 k))) → va_P (dC, dI) classes ([(oc5 ro (.ref za) (.ref zw) (.ref zx) (.ref zy) (.ref zg) (nI n5)), (oq za cF 200 RAk), (oa zw cI 200 WTk), (oa zx cI 400 EX), (oa zy cI 400 EY), (oa zg cI 400 GR), (oc7 sh (.ref fa) (nI ft)), (oq fa cF 200 FA)] ++ va_pl L f) H → va_D A ([(oc5 ro (.ref za) (.ref zw) (.ref zx) (.ref zy) (.ref zg) (nI n5)), (oq za cF 200 RAk), (oa zw cI 200 WTk), (oa zx cI 400 EX), (oa zy cI 400 EY), (oa zg cI 400 GR), (oc7 sh (.ref fa) (nI ft)), (oq fa cF 200 FA)] ++ va_pl L f) → va_S A s.heap H locs → lv_has ls 5 [(2, .int (nI g5)), (0, .ref ro), (1, .ref sh)] → W p l e ((headSpec (.code yX6_gather cX6_gather 5 none :: ws0) ({ frames := 2, cells := 0, slots := 0, locals := 43 } : Room)).room) s m ([.ref ro, .ref sh] : List Value).toArray below meth c H locs 0 0 Q9 (F0 m 7 ls []) := by
    intro n9
    induction n9 with
    | zero => intro g5 n5 rd5 RAk WTk H locs ls hm; exact absurd hm (Nat.not_lt_zero _)
    | succ n9 ih_7 =>
      intro g5 n5 rd5 RAk WTk H locs ls hm hg5 hSr hAr hP hD hS hl
      refine lv_iload_n hx hb dX6_gather_7 rfl (lv_at hl 0 rfl) ?_
      refine lv_aload_n hx hb dX6_gather_8 rfl (lv_at hl 2 rfl) ?_
      refine va_get (D := (dC, dI)) (ci := 7) (v := .int (nI ft)) (C := RX8) (T := TX8) (N := 2) hx hb hts inX8 hown hK hP 6 rfl rfl 1 (by decide) (hts _ mw_138) (fun _ h9 => h9) rfl dX6_gather_9 ?_
      refine lv_icmp_ge (tgt := 71) hx hb dX6_gather_12 (by decide) (fun c_1 => ?_) (fun c_1 => ?_)
      · have c_1 : ((ft : Nat) : Int) ≤ ((g5 : Nat) : Int) := zc_le (nI_toInt (by omega)) (nI_toInt (by omega)) c_1
        have hgf : g5 = ft := (by omega)
        rw [hgf] at hSr
        refine lv_iconst (v := 0) hx hb dX6_gather_71 (by decide) ?_
        refine lv_istore_n (lv' := [(2, .int 0), (0, .ref ro), (1, .ref sh)]) hx hb dX6_gather_72 rfl hl (by decide) rfl (fun ls hl => ?_)
        have hl_73 : ∀ (n9 : Nat) (i5 : Nat) (EXk : Nat → Int32) (EYk : Nat → Int32) (GRk : Nat → Int32) (H : Heap) (locs : List Loc) (ls : Array Slot), n5 - i5 < n9 → (i5 ≤ n5) → (grI (fun j => (EXk j, EYk j)) GRk (2 * i5)) → (∀ k, k < i5 → (EXk (2 * k), EYk (2 * k)) = chB cx cy (rd5 k) ∧ (EXk (2 * k + 1), EYk (2 * k + 1)) = chL mn cx cy (rd5 k)) → va_P (dC, dI) classes ([(oc5 ro (.ref za) (.ref zw) (.ref zx) (.ref zy) (.ref zg) (nI n5)), (oq za cF 200 RAk), (oa zw cI 200 WTk), (oa zx cI 400 EXk), (oa zy cI 400 EYk), (oa zg cI 400 GRk), (oc7 sh (.ref fa) (nI ft)), (oq fa cF 200 FA)] ++ va_pl L f) H → va_D A ([(oc5 ro (.ref za) (.ref zw) (.ref zx) (.ref zy) (.ref zg) (nI n5)), (oq za cF 200 RAk), (oa zw cI 200 WTk), (oa zx cI 400 EXk), (oa zy cI 400 EYk), (oa zg cI 400 GRk), (oc7 sh (.ref fa) (nI ft)), (oq fa cF 200 FA)] ++ va_pl L f) → va_S A s.heap H locs → lv_has ls 5 [(2, .int (nI i5)), (0, .ref ro), (1, .ref sh)] → W p l e ((headSpec (.code yX6_gather cX6_gather 5 none :: ws0) ({ frames := 2, cells := 0, slots := 0, locals := 43 } : Room)).room) s m ([.ref ro, .ref sh] : List Value).toArray below meth c H locs 0 0 Q9 (F0 m 73 ls []) := by
          intro n9
          induction n9 with
          | zero => intro i5 EXk EYk GRk H locs ls hm; exact absurd hm (Nat.not_lt_zero _)
          | succ n9 ih_73 =>
            intro i5 EXk EYk GRk H locs ls hm hi5 hgr hen hP hD hS hl
            refine lv_iload_n hx hb dX6_gather_73 rfl (lv_at hl 0 rfl) ?_
            refine lv_aload_n hx hb dX6_gather_74 rfl (lv_at hl 1 rfl) ?_
            refine va_get (D := (dC, dI)) (ci := 5) (v := .int (nI n5)) (C := RX6) (T := TX6) (N := 6) hx hb hts inX6 hown hK hP 0 rfl rfl 5 (by decide) (hts _ mw_251) (fun _ h9 => h9) rfl dX6_gather_75 ?_
            refine lv_icmp_ge (tgt := 174) hx hb dX6_gather_78 (by decide) (fun c_2 => ?_) (fun c_2 => ?_)
            · have c_2 : ((n5 : Nat) : Int) ≤ ((i5 : Nat) : Int) := zc_le (nI_toInt (by omega)) (nI_toInt (by omega)) c_2
              have hie : i5 = n5 := (by omega)
              rw [hie] at hgr hen
              have hP9 := hP.part (cx := [(oc5 ro (.ref za) (.ref zw) (.ref zx) (.ref zy) (.ref zg) (nI n5)), (oq za cF 200 RAk), (oa zw cI 200 WTk), (oa zx cI 400 EXk), (oa zy cI 400 EYk), (oa zg cI 400 GRk), (oc7 sh (.ref fa) (nI ft)), (oq fa cF 200 FA)]) [0, 1, 2, 3, 4, 5, 6, 7] rfl
              have hD9 := hD.part (cx := [(oc5 ro (.ref za) (.ref zw) (.ref zx) (.ref zy) (.ref zg) (nI n5)), (oq za cF 200 RAk), (oa zw cI 200 WTk), (oa zx cI 400 EXk), (oa zy cI 400 EYk), (oa zg cI 400 GRk), (oc7 sh (.ref fa) (nI ft)), (oq fa cF 200 FA)]) [0, 1, 2, 3, 4, 5, 6, 7] (by decide) rfl
              rw [hQ9]
              exact W.vret hx hb hr (fun t ht hW => ⟨⟨rfl, n5, rd5, RAk, WTk, EXk, EYk, GRk, (by omega), (hSr), (fun k hk => (hAr k hk).1), (hgr), (hen), by rw [ht]; exact hP9, hD9⟩, hS.F ht⟩) hS.2.2 dX6_gather_174
            · have c_2 : ((i5 : Nat) : Int) < ((n5 : Nat) : Int) := zc_nle (nI_toInt (by omega)) (nI_toInt (by omega)) c_2
              have hRi := (hSr.1 i5 (by omega)).1
              have hlt5 := (hSr.1 i5 (by omega)).2
              have hwi := hwf (rd5 i5) hRi.1
              have hni := hwi.2.1
              obtain ⟨lo5, lx5, ly5, ln5, LX5, LY5, we5, r5, rx5, ry5, cap5, X5, Y5, hc5⟩ := sh_fc hF hN (Nat.le_refl _) hRi.1.1 hRi.1.2.2
              have hg1 : grM (md (rd5 i5)) (rd5 i5) ≠ 8 * (rd5 i5) + 1 := (by unfold grM; split <;> omega)
              have hb5 := hc5.2.2.1
              have hX5 := hc5.2.2.2.2.1
              have hkni := hkn (rd5 i5) hRi.1
              have hn2i : 2 ≤ nN (mn (rd5 i5)) := (by have h9 := hRi.2; omega)
              have hc9_1 : inPl L f [(oc1 (fe (rd5 i5)) (rk (rd5 i5)) (wd (rd5 i5)) (tw (rd5 i5)) (pa (rd5 i5)) (pb (rd5 i5)) (.ref lo5) (.ref (nw (rd5 i5))) (fm (rd5 i5))), (oc4 (nw (rd5 i5)) (kd (rd5 i5)) (st (rd5 i5)) (.ref r5) (gb (rd5 i5)) (it (rd5 i5)) (nI we5)), (oc6 r5 (.ref rx5) (.ref ry5) (nI (nN (mn (rd5 i5)))) (rgK (kd (rd5 i5)).toInt)), (oa rx5 cI cap5 X5), (oa ry5 cI cap5 Y5), (oc6 lo5 (.ref lx5) (.ref ly5) (nI ln5) 0), (oa lx5 cI (cl (rd5 i5)) LX5), (oa ly5 cI (cl (rd5 i5)) LY5)] := ⟨ce_pl hc5.1.1, ce_pl hc5.1.2.1, ce_pl hc5.1.2.2.1.1, ce_pl hc5.1.2.2.1.2.1, ce_pl hc5.1.2.2.1.2.2.1, ce_pl hc5.1.2.2.2.1, ce_pl hc5.1.2.2.2.2.1, ce_pl hc5.1.2.2.2.2.2.1, trivial⟩
              have hD0_1 := hD
              obtain ⟨hP, hD⟩ := pl_out hP hD [(oc1 (fe (rd5 i5)) (rk (rd5 i5)) (wd (rd5 i5)) (tw (rd5 i5)) (pa (rd5 i5)) (pb (rd5 i5)) (.ref lo5) (.ref (nw (rd5 i5))) (fm (rd5 i5))), (oc4 (nw (rd5 i5)) (kd (rd5 i5)) (st (rd5 i5)) (.ref r5) (gb (rd5 i5)) (it (rd5 i5)) (nI we5)), (oc6 r5 (.ref rx5) (.ref ry5) (nI (nN (mn (rd5 i5)))) (rgK (kd (rd5 i5)).toInt)), (oa rx5 cI cap5 X5), (oa ry5 cI cap5 Y5), (oc6 lo5 (.ref lx5) (.ref ly5) (nI ln5) 0), (oa lx5 cI (cl (rd5 i5)) LX5), (oa ly5 cI (cl (rd5 i5)) LY5)] hc9_1 (pw8 hc5 hg1)
              generalize hT_1 : outPl L [(oc1 (fe (rd5 i5)) (rk (rd5 i5)) (wd (rd5 i5)) (tw (rd5 i5)) (pa (rd5 i5)) (pb (rd5 i5)) (.ref lo5) (.ref (nw (rd5 i5))) (fm (rd5 i5))), (oc4 (nw (rd5 i5)) (kd (rd5 i5)) (st (rd5 i5)) (.ref r5) (gb (rd5 i5)) (it (rd5 i5)) (nI we5)), (oc6 r5 (.ref rx5) (.ref ry5) (nI (nN (mn (rd5 i5)))) (rgK (kd (rd5 i5)).toInt)), (oa rx5 cI cap5 X5), (oa ry5 cI cap5 Y5), (oc6 lo5 (.ref lx5) (.ref ly5) (nI ln5) 0), (oa lx5 cI (cl (rd5 i5)) LX5), (oa ly5 cI (cl (rd5 i5)) LY5)] = T_1 at hP hD
              have hP : va_P (dC, dI) classes ([(oc5 ro (.ref za) (.ref zw) (.ref zx) (.ref zy) (.ref zg) (nI n5)), (oq za cF 200 RAk), (oa zw cI 200 WTk), (oa zx cI 400 EXk), (oa zy cI 400 EYk), (oa zg cI 400 GRk), (oc7 sh (.ref fa) (nI ft)), (oq fa cF 200 FA), (oc1 (fe (rd5 i5)) (rk (rd5 i5)) (wd (rd5 i5)) (tw (rd5 i5)) (pa (rd5 i5)) (pb (rd5 i5)) (.ref lo5) (.ref (nw (rd5 i5))) (fm (rd5 i5))), (oc4 (nw (rd5 i5)) (kd (rd5 i5)) (st (rd5 i5)) (.ref r5) (gb (rd5 i5)) (it (rd5 i5)) (nI we5)), (oc6 r5 (.ref rx5) (.ref ry5) (nI (nN (mn (rd5 i5)))) (rgK (kd (rd5 i5)).toInt)), (oa rx5 cI cap5 X5), (oa ry5 cI cap5 Y5), (oc6 lo5 (.ref lx5) (.ref ly5) (nI ln5) 0), (oa lx5 cI (cl (rd5 i5)) LX5), (oa ly5 cI (cl (rd5 i5)) LY5)] ++ va_pl T_1 f) H := hP
              have hD : va_D A ([(oc5 ro (.ref za) (.ref zw) (.ref zx) (.ref zy) (.ref zg) (nI n5)), (oq za cF 200 RAk), (oa zw cI 200 WTk), (oa zx cI 400 EXk), (oa zy cI 400 EYk), (oa zg cI 400 GRk), (oc7 sh (.ref fa) (nI ft)), (oq fa cF 200 FA), (oc1 (fe (rd5 i5)) (rk (rd5 i5)) (wd (rd5 i5)) (tw (rd5 i5)) (pa (rd5 i5)) (pb (rd5 i5)) (.ref lo5) (.ref (nw (rd5 i5))) (fm (rd5 i5))), (oc4 (nw (rd5 i5)) (kd (rd5 i5)) (st (rd5 i5)) (.ref r5) (gb (rd5 i5)) (it (rd5 i5)) (nI we5)), (oc6 r5 (.ref rx5) (.ref ry5) (nI (nN (mn (rd5 i5)))) (rgK (kd (rd5 i5)).toInt)), (oa rx5 cI cap5 X5), (oa ry5 cI cap5 Y5), (oc6 lo5 (.ref lx5) (.ref ly5) (nI ln5) 0), (oa lx5 cI (cl (rd5 i5)) LX5), (oa ly5 cI (cl (rd5 i5)) LY5)] ++ va_pl T_1 f) := hD
              refine lv_aload_n hx hb dX6_gather_81 rfl (lv_at hl 1 rfl) ?_
              refine va_get (D := (dC, dI)) (ci := 5) (v := .ref za) (C := RX6) (T := TX6) (N := 6) hx hb hts inX6 hown hK hP 0 rfl rfl 0 (by decide) (hts _ mw_246) (fun _ h9 => h9) rfl dX6_gather_82 ?_
              refine lv_iload_n hx hb dX6_gather_85 rfl (lv_at hl 0 rfl) ?_
              refine z_aald hx hb hK hP 1 2 rfl rfl (e := i5) rfl (by omega) (by omega) (v := .ref (fe (rd5 i5))) (by rw [(hAr i5 (by omega)).1]; rfl) dX6_gather_86 ?_
              refine lv_ifnonnull (tgt := 94) hx hb dX6_gather_87 (by decide) ?_
              refine lv_aload_n hx hb dX6_gather_94 rfl (lv_at hl 1 rfl) ?_
              refine va_get (D := (dC, dI)) (ci := 5) (v := .ref za) (C := RX6) (T := TX6) (N := 6) hx hb hts inX6 hown hK hP 0 rfl rfl 0 (by decide) (hts _ mw_246) (fun _ h9 => h9) rfl dX6_gather_95 ?_
              refine lv_iload_n hx hb dX6_gather_98 rfl (lv_at hl 0 rfl) ?_
              refine z_aald hx hb hK hP 1 2 rfl rfl (e := i5) rfl (by omega) (by omega) (v := .ref (fe (rd5 i5))) (by rw [(hAr i5 (by omega)).1]; rfl) dX6_gather_99 ?_
              refine va_get (D := (dC, dI)) (ci := 1) (v := .ref (nw (rd5 i5))) (C := RX2) (T := TX2) (N := 8) hx hb hts inX2 hown hK hP 8 rfl rfl 6 (by decide) (hts _ mw_432) (fun _ h9 => h9) rfl dX6_gather_100 ?_
              refine va_get (D := (dC, dI)) (ci := 4) (v := .ref r5) (C := RX5) (T := TX5) (N := 6) hx hb hts inX5 hown hK hP 9 rfl rfl 2 (by decide) (hts _ mw_390) (fun _ h9 => h9) rfl dX6_gather_103 ?_
              refine lv_astore_n (lv' := [(3, .ref r5), (2, .int (nI i5)), (0, .ref ro), (1, .ref sh)]) hx hb dX6_gather_106 rfl hl (by decide) rfl (fun ls hl => ?_)
              refine lv_aload_n hx hb dX6_gather_107 rfl (lv_at hl 0 rfl) ?_
              refine lv_ifnull hx hb dX6_gather_108 ?_
              refine lv_aload_n hx hb dX6_gather_111 rfl (lv_at hl 0 rfl) ?_
              refine va_get (D := (dC, dI)) (ci := 6) (v := .int (nI (nN (mn (rd5 i5))))) (C := RX7) (T := TX7) (N := 4) hx hb hts inX7 hown hK hP 10 rfl rfl 2 (by decide) (hts _ mw_177) (fun _ h9 => h9) rfl dX6_gather_112 ?_
              refine lv_if_le (tgt := 168) hx hb dX6_gather_115 (by decide) (fun c_3 => ?_) (fun c_3 => ?_)
              · have c_3 : ((nN (mn (rd5 i5)) : Nat) : Int) ≤ 0 := zc_le (nI_toInt (by omega)) (by decide) c_3
                exfalso; omega
              · have c_3 : 0 < ((nN (mn (rd5 i5)) : Nat) : Int) := zc_nle (nI_toInt (by omega)) (by decide) c_3
                refine lv_aload_n hx hb dX6_gather_118 rfl (lv_at hl 2 rfl) ?_
                refine lv_iconst (v := 2) hx hb dX6_gather_119 (by decide) ?_
                refine lv_iload_n hx hb dX6_gather_120 rfl (lv_at hl 1 rfl) ?_
                refine lv_imul hx hb dX6_gather_121 ?_
                refine zz_i (v := nI (2 * i5)) (pk_mul 2 i5) ?_
                refine lv_aload_n hx hb dX6_gather_122 rfl (lv_at hl 0 rfl) ?_
                refine va_get (D := (dC, dI)) (ci := 6) (v := .ref rx5) (C := RX7) (T := TX7) (N := 4) hx hb hts inX7 hown hK hP 10 rfl rfl 0 (by decide) (hts _ mw_162) (fun _ h9 => h9) rfl dX6_gather_123 ?_
                refine lv_iconst (v := 0) hx hb dX6_gather_126 (by decide) ?_
                refine z_iald hx hb hK hP 11 0 rfl rfl (e := 0) rfl (by omega) (by omega) dX6_gather_127 ?_
                refine lv_aload_n hx hb dX6_gather_128 rfl (lv_at hl 0 rfl) ?_
                refine va_get (D := (dC, dI)) (ci := 6) (v := .ref ry5) (C := RX7) (T := TX7) (N := 4) hx hb hts inX7 hown hK hP 10 rfl rfl 1 (by decide) (hts _ mw_169) (fun _ h9 => h9) rfl dX6_gather_129 ?_
                refine lv_iconst (v := 0) hx hb dX6_gather_132 (by decide) ?_
                refine z_iald hx hb hK hP 12 0 rfl rfl (e := 0) rfl (by omega) (by omega) dX6_gather_133 ?_
                have hPc := hP.sub (ws' := [(oc5 ro (.ref za) (.ref zw) (.ref zx) (.ref zy) (.ref zg) (nI n5)), (oa zx cI 400 EXk), (oa zy cI 400 EYk), (oa zg cI 400 GRk)]) [0, 3, 4, 5] rfl
                have hDc := hD.sub (ws' := [(oc5 ro (.ref za) (.ref zw) (.ref zx) (.ref zy) (.ref zg) (nI n5)), (oa zx cI 400 EXk), (oa zy cI 400 EYk), (oa zg cI 400 GRk)]) [0, 3, 4, 5] (by decide) rfl
                have hFc := va_free (wc := [(oc5 ro (.ref za) (.ref zw) (.ref zx) (.ref zy) (.ref zg) (nI n5)), (oa zx cI 400 EXk), (oa zy cI 400 EYk), (oa zg cI 400 GRk)]) hD hS hA [0, 3, 4, 5] rfl
                refine zcall (st1 := []) (va_runV (As := [.int (nI (2 * i5)), .int (X5 0), .int (Y5 0)]) (rest := []) ⟨hx, hb, hml, hown, hts⟩ (k_Roads_setEnd l dC dI cI cZ cF H.size ro za zw zx zy zg (2 * i5) (nI n5) (X5 0) (Y5 0) EXk EYk GRk (by omega)) (cwV 3 hts (zz_gV mw_1010 mw_1012 mw_30 mw_105 mc_yX6_setEnd) rfl rfl rfl (by decide +kernel) ⟨Nat.le_of_ble_eq_true rfl, Nat.le_of_ble_eq_true rfl⟩) (zPV2 (q0 := 0) (ci := 5) hPc hDc hK hXN rfl rfl) rfl rfl hl.1 rfl (lv_room (Nat.le_of_ble_eq_true rfl)) dX6_gather_134 ⟨Nat.le_of_ble_eq_true rfl, Nat.le_of_ble_eq_true rfl⟩) hS hFc hFc rfl (fun t H1 locs ht hB hk1 hS => ?_)
                obtain ⟨ka, GRa, hea1, hea2, hea3, hP1, hD1⟩ := hB
                rw [ht] at hP1
                obtain ⟨hP, hD⟩ := va_joinQ (wr := [(oq za cF 200 RAk), (oa zw cI 200 WTk), (oc7 sh (.ref fa) (nI ft)), (oq fa cF 200 FA), (oc1 (fe (rd5 i5)) (rk (rd5 i5)) (wd (rd5 i5)) (tw (rd5 i5)) (pa (rd5 i5)) (pb (rd5 i5)) (.ref lo5) (.ref (nw (rd5 i5))) (fm (rd5 i5))), (oc4 (nw (rd5 i5)) (kd (rd5 i5)) (st (rd5 i5)) (.ref r5) (gb (rd5 i5)) (it (rd5 i5)) (nI we5)), (oc6 r5 (.ref rx5) (.ref ry5) (nI (nN (mn (rd5 i5)))) (rgK (kd (rd5 i5)).toInt)), (oa rx5 cI cap5 X5), (oa ry5 cI cap5 Y5), (oc6 lo5 (.ref lx5) (.ref ly5) (nI ln5) 0), (oa lx5 cI (cl (rd5 i5)) LX5), (oa ly5 cI (cl (rd5 i5)) LY5)]) (w1 := [(oc5 ro (.ref za) (.ref zw) (.ref zx) (.ref zy) (.ref zg) (nI n5)), (oa zx cI 400 (upd EXk (2 * i5) (X5 0))), (oa zy cI 400 (upd EYk (2 * i5) (Y5 0))), (oa zg cI 400 GRa)]) hP hD [0, 3, 4, 5] [1, 2, 6, 7, 8, 9, 10, 11, 12, 13, 14, 15] rfl rfl (by decide) (by decide) hk1 hFc hP1 hD1
                clear hk1 hPc hDc hFc hP1 hD1 ht
                generalize H1 = H at hP hS ⊢
                have hP := hP.part (cx := [(oc5 ro (.ref za) (.ref zw) (.ref zx) (.ref zy) (.ref zg) (nI n5)), (oq za cF 200 RAk), (oa zw cI 200 WTk), (oa zx cI 400 (upd EXk (2 * i5) (X5 0))), (oa zy cI 400 (upd EYk (2 * i5) (Y5 0))), (oa zg cI 400 GRa), (oc7 sh (.ref fa) (nI ft)), (oq fa cF 200 FA), (oc1 (fe (rd5 i5)) (rk (rd5 i5)) (wd (rd5 i5)) (tw (rd5 i5)) (pa (rd5 i5)) (pb (rd5 i5)) (.ref lo5) (.ref (nw (rd5 i5))) (fm (rd5 i5))), (oc4 (nw (rd5 i5)) (kd (rd5 i5)) (st (rd5 i5)) (.ref r5) (gb (rd5 i5)) (it (rd5 i5)) (nI we5)), (oc6 r5 (.ref rx5) (.ref ry5) (nI (nN (mn (rd5 i5)))) (rgK (kd (rd5 i5)).toInt)), (oa rx5 cI cap5 X5), (oa ry5 cI cap5 Y5), (oc6 lo5 (.ref lx5) (.ref ly5) (nI ln5) 0), (oa lx5 cI (cl (rd5 i5)) LX5), (oa ly5 cI (cl (rd5 i5)) LY5)]) [12, 0, 1, 13, 14, 15, 2, 3, 4, 5, 6, 7, 8, 9, 10, 11] rfl
                have hD := hD.part (cx := [(oc5 ro (.ref za) (.ref zw) (.ref zx) (.ref zy) (.ref zg) (nI n5)), (oq za cF 200 RAk), (oa zw cI 200 WTk), (oa zx cI 400 (upd EXk (2 * i5) (X5 0))), (oa zy cI 400 (upd EYk (2 * i5) (Y5 0))), (oa zg cI 400 GRa), (oc7 sh (.ref fa) (nI ft)), (oq fa cF 200 FA), (oc1 (fe (rd5 i5)) (rk (rd5 i5)) (wd (rd5 i5)) (tw (rd5 i5)) (pa (rd5 i5)) (pb (rd5 i5)) (.ref lo5) (.ref (nw (rd5 i5))) (fm (rd5 i5))), (oc4 (nw (rd5 i5)) (kd (rd5 i5)) (st (rd5 i5)) (.ref r5) (gb (rd5 i5)) (it (rd5 i5)) (nI we5)), (oc6 r5 (.ref rx5) (.ref ry5) (nI (nN (mn (rd5 i5)))) (rgK (kd (rd5 i5)).toInt)), (oa rx5 cI cap5 X5), (oa ry5 cI cap5 Y5), (oc6 lo5 (.ref lx5) (.ref ly5) (nI ln5) 0), (oa lx5 cI (cl (rd5 i5)) LX5), (oa ly5 cI (cl (rd5 i5)) LY5)]) [12, 0, 1, 13, 14, 15, 2, 3, 4, 5, 6, 7, 8, 9, 10, 11] (by decide) rfl
                have hP : va_P (dC, dI) classes ([(oc5 ro (.ref za) (.ref zw) (.ref zx) (.ref zy) (.ref zg) (nI n5)), (oq za cF 200 RAk), (oa zw cI 200 WTk), (oa zx cI 400 (upd EXk (2 * i5) (X5 0))), (oa zy cI 400 (upd EYk (2 * i5) (Y5 0))), (oa zg cI 400 GRa), (oc7 sh (.ref fa) (nI ft)), (oq fa cF 200 FA), (oc1 (fe (rd5 i5)) (rk (rd5 i5)) (wd (rd5 i5)) (tw (rd5 i5)) (pa (rd5 i5)) (pb (rd5 i5)) (.ref lo5) (.ref (nw (rd5 i5))) (fm (rd5 i5))), (oc4 (nw (rd5 i5)) (kd (rd5 i5)) (st (rd5 i5)) (.ref r5) (gb (rd5 i5)) (it (rd5 i5)) (nI we5)), (oc6 r5 (.ref rx5) (.ref ry5) (nI (nN (mn (rd5 i5)))) (rgK (kd (rd5 i5)).toInt)), (oa rx5 cI cap5 X5), (oa ry5 cI cap5 Y5), (oc6 lo5 (.ref lx5) (.ref ly5) (nI ln5) 0), (oa lx5 cI (cl (rd5 i5)) LX5), (oa ly5 cI (cl (rd5 i5)) LY5)] ++ va_pl T_1 f) H := hP
                have hD : va_D A ([(oc5 ro (.ref za) (.ref zw) (.ref zx) (.ref zy) (.ref zg) (nI n5)), (oq za cF 200 RAk), (oa zw cI 200 WTk), (oa zx cI 400 (upd EXk (2 * i5) (X5 0))), (oa zy cI 400 (upd EYk (2 * i5) (Y5 0))), (oa zg cI 400 GRa), (oc7 sh (.ref fa) (nI ft)), (oq fa cF 200 FA), (oc1 (fe (rd5 i5)) (rk (rd5 i5)) (wd (rd5 i5)) (tw (rd5 i5)) (pa (rd5 i5)) (pb (rd5 i5)) (.ref lo5) (.ref (nw (rd5 i5))) (fm (rd5 i5))), (oc4 (nw (rd5 i5)) (kd (rd5 i5)) (st (rd5 i5)) (.ref r5) (gb (rd5 i5)) (it (rd5 i5)) (nI we5)), (oc6 r5 (.ref rx5) (.ref ry5) (nI (nN (mn (rd5 i5)))) (rgK (kd (rd5 i5)).toInt)), (oa rx5 cI cap5 X5), (oa ry5 cI cap5 Y5), (oc6 lo5 (.ref lx5) (.ref ly5) (nI ln5) 0), (oa lx5 cI (cl (rd5 i5)) LX5), (oa ly5 cI (cl (rd5 i5)) LY5)] ++ va_pl T_1 f) := hD
                refine lv_aload_n hx hb dX6_gather_137 rfl (lv_at hl 2 rfl) ?_
                refine lv_iconst (v := 2) hx hb dX6_gather_138 (by decide) ?_
                refine lv_iload_n hx hb dX6_gather_139 rfl (lv_at hl 1 rfl) ?_
                refine lv_imul hx hb dX6_gather_140 ?_
                refine zz_i (v := nI (2 * i5)) (pk_mul 2 i5) ?_
                refine lv_iconst (v := 1) hx hb dX6_gather_141 (by decide) ?_
                refine lv_iadd hx hb dX6_gather_142 ?_
                refine zz_i (v := nI (2 * i5 + 1)) (nI_add (2 * i5) 1) ?_
                refine lv_aload_n hx hb dX6_gather_143 rfl (lv_at hl 0 rfl) ?_
                refine va_get (D := (dC, dI)) (ci := 6) (v := .ref rx5) (C := RX7) (T := TX7) (N := 4) hx hb hts inX7 hown hK hP 10 rfl rfl 0 (by decide) (hts _ mw_162) (fun _ h9 => h9) rfl dX6_gather_144 ?_
                refine lv_aload_n hx hb dX6_gather_147 rfl (lv_at hl 0 rfl) ?_
                refine va_get (D := (dC, dI)) (ci := 6) (v := .int (nI (nN (mn (rd5 i5))))) (C := RX7) (T := TX7) (N := 4) hx hb hts inX7 hown hK hP 10 rfl rfl 2 (by decide) (hts _ mw_177) (fun _ h9 => h9) rfl dX6_gather_148 ?_
                refine lv_iconst (v := 1) hx hb dX6_gather_151 (by decide) ?_
                refine lv_isub hx hb dX6_gather_152 ?_
                refine zz_i (v := nI ((nN (mn (rd5 i5))) - 1)) (pk_sub (a := nN (mn (rd5 i5))) (b := 1) (by omega)) ?_
                refine z_iald hx hb hK hP 11 0 rfl rfl (e := (nN (mn (rd5 i5))) - 1) rfl (by omega) (by omega) dX6_gather_153 ?_
                refine lv_aload_n hx hb dX6_gather_154 rfl (lv_at hl 0 rfl) ?_
                refine va_get (D := (dC, dI)) (ci := 6) (v := .ref ry5) (C := RX7) (T := TX7) (N := 4) hx hb hts inX7 hown hK hP 10 rfl rfl 1 (by decide) (hts _ mw_169) (fun _ h9 => h9) rfl dX6_gather_155 ?_
                refine lv_aload_n hx hb dX6_gather_158 rfl (lv_at hl 0 rfl) ?_
                refine va_get (D := (dC, dI)) (ci := 6) (v := .int (nI (nN (mn (rd5 i5))))) (C := RX7) (T := TX7) (N := 4) hx hb hts inX7 hown hK hP 10 rfl rfl 2 (by decide) (hts _ mw_177) (fun _ h9 => h9) rfl dX6_gather_159 ?_
                refine lv_iconst (v := 1) hx hb dX6_gather_162 (by decide) ?_
                refine lv_isub hx hb dX6_gather_163 ?_
                refine zz_i (v := nI ((nN (mn (rd5 i5))) - 1)) (pk_sub (a := nN (mn (rd5 i5))) (b := 1) (by omega)) ?_
                refine z_iald hx hb hK hP 12 0 rfl rfl (e := (nN (mn (rd5 i5))) - 1) rfl (by omega) (by omega) dX6_gather_164 ?_
                have hPc := hP.sub (ws' := [(oc5 ro (.ref za) (.ref zw) (.ref zx) (.ref zy) (.ref zg) (nI n5)), (oa zx cI 400 (upd EXk (2 * i5) (X5 0))), (oa zy cI 400 (upd EYk (2 * i5) (Y5 0))), (oa zg cI 400 GRa)]) [0, 3, 4, 5] rfl
                have hDc := hD.sub (ws' := [(oc5 ro (.ref za) (.ref zw) (.ref zx) (.ref zy) (.ref zg) (nI n5)), (oa zx cI 400 (upd EXk (2 * i5) (X5 0))), (oa zy cI 400 (upd EYk (2 * i5) (Y5 0))), (oa zg cI 400 GRa)]) [0, 3, 4, 5] (by decide) rfl
                have hFc := va_free (wc := [(oc5 ro (.ref za) (.ref zw) (.ref zx) (.ref zy) (.ref zg) (nI n5)), (oa zx cI 400 (upd EXk (2 * i5) (X5 0))), (oa zy cI 400 (upd EYk (2 * i5) (Y5 0))), (oa zg cI 400 GRa)]) hD hS hA [0, 3, 4, 5] rfl
                refine zcall (st1 := []) (va_runV (As := [.int (nI (2 * i5 + 1)), .int (X5 ((nN (mn (rd5 i5))) - 1)), .int (Y5 ((nN (mn (rd5 i5))) - 1))]) (rest := []) ⟨hx, hb, hml, hown, hts⟩ (k_Roads_setEnd l dC dI cI cZ cF H.size ro za zw zx zy zg (2 * i5 + 1) (nI n5) (X5 ((nN (mn (rd5 i5))) - 1)) (Y5 ((nN (mn (rd5 i5))) - 1)) (upd EXk (2 * i5) (X5 0)) (upd EYk (2 * i5) (Y5 0)) GRa (by omega)) (cwV 3 hts (zz_gV mw_1010 mw_1012 mw_30 mw_105 mc_yX6_setEnd) rfl rfl rfl (by decide +kernel) ⟨Nat.le_of_ble_eq_true rfl, Nat.le_of_ble_eq_true rfl⟩) (zPV2 (q0 := 0) (ci := 5) hPc hDc hK hXN rfl rfl) rfl rfl hl.1 rfl (lv_room (Nat.le_of_ble_eq_true rfl)) dX6_gather_165 ⟨Nat.le_of_ble_eq_true rfl, Nat.le_of_ble_eq_true rfl⟩) hS hFc hFc rfl (fun t H1 locs ht hB hk1 hS => ?_)
                obtain ⟨kb, GRb, heb1, heb2, heb3, hP1, hD1⟩ := hB
                rw [ht] at hP1
                obtain ⟨hP, hD⟩ := va_joinQ (wr := [(oq za cF 200 RAk), (oa zw cI 200 WTk), (oc7 sh (.ref fa) (nI ft)), (oq fa cF 200 FA), (oc1 (fe (rd5 i5)) (rk (rd5 i5)) (wd (rd5 i5)) (tw (rd5 i5)) (pa (rd5 i5)) (pb (rd5 i5)) (.ref lo5) (.ref (nw (rd5 i5))) (fm (rd5 i5))), (oc4 (nw (rd5 i5)) (kd (rd5 i5)) (st (rd5 i5)) (.ref r5) (gb (rd5 i5)) (it (rd5 i5)) (nI we5)), (oc6 r5 (.ref rx5) (.ref ry5) (nI (nN (mn (rd5 i5)))) (rgK (kd (rd5 i5)).toInt)), (oa rx5 cI cap5 X5), (oa ry5 cI cap5 Y5), (oc6 lo5 (.ref lx5) (.ref ly5) (nI ln5) 0), (oa lx5 cI (cl (rd5 i5)) LX5), (oa ly5 cI (cl (rd5 i5)) LY5)]) (w1 := [(oc5 ro (.ref za) (.ref zw) (.ref zx) (.ref zy) (.ref zg) (nI n5)), (oa zx cI 400 (upd (upd EXk (2 * i5) (X5 0)) (2 * i5 + 1) (X5 ((nN (mn (rd5 i5))) - 1)))), (oa zy cI 400 (upd (upd EYk (2 * i5) (Y5 0)) (2 * i5 + 1) (Y5 ((nN (mn (rd5 i5))) - 1)))), (oa zg cI 400 GRb)]) hP hD [0, 3, 4, 5] [1, 2, 6, 7, 8, 9, 10, 11, 12, 13, 14, 15] rfl rfl (by decide) (by decide) hk1 hFc hP1 hD1
                clear hk1 hPc hDc hFc hP1 hD1 ht
                generalize H1 = H at hP hS ⊢
                have hP := hP.part (cx := [(oc5 ro (.ref za) (.ref zw) (.ref zx) (.ref zy) (.ref zg) (nI n5)), (oq za cF 200 RAk), (oa zw cI 200 WTk), (oa zx cI 400 (upd (upd EXk (2 * i5) (X5 0)) (2 * i5 + 1) (X5 ((nN (mn (rd5 i5))) - 1)))), (oa zy cI 400 (upd (upd EYk (2 * i5) (Y5 0)) (2 * i5 + 1) (Y5 ((nN (mn (rd5 i5))) - 1)))), (oa zg cI 400 GRb), (oc7 sh (.ref fa) (nI ft)), (oq fa cF 200 FA), (oc1 (fe (rd5 i5)) (rk (rd5 i5)) (wd (rd5 i5)) (tw (rd5 i5)) (pa (rd5 i5)) (pb (rd5 i5)) (.ref lo5) (.ref (nw (rd5 i5))) (fm (rd5 i5))), (oc4 (nw (rd5 i5)) (kd (rd5 i5)) (st (rd5 i5)) (.ref r5) (gb (rd5 i5)) (it (rd5 i5)) (nI we5)), (oc6 r5 (.ref rx5) (.ref ry5) (nI (nN (mn (rd5 i5)))) (rgK (kd (rd5 i5)).toInt)), (oa rx5 cI cap5 X5), (oa ry5 cI cap5 Y5), (oc6 lo5 (.ref lx5) (.ref ly5) (nI ln5) 0), (oa lx5 cI (cl (rd5 i5)) LX5), (oa ly5 cI (cl (rd5 i5)) LY5)]) [12, 0, 1, 13, 14, 15, 2, 3, 4, 5, 6, 7, 8, 9, 10, 11] rfl
                have hD := hD.part (cx := [(oc5 ro (.ref za) (.ref zw) (.ref zx) (.ref zy) (.ref zg) (nI n5)), (oq za cF 200 RAk), (oa zw cI 200 WTk), (oa zx cI 400 (upd (upd EXk (2 * i5) (X5 0)) (2 * i5 + 1) (X5 ((nN (mn (rd5 i5))) - 1)))), (oa zy cI 400 (upd (upd EYk (2 * i5) (Y5 0)) (2 * i5 + 1) (Y5 ((nN (mn (rd5 i5))) - 1)))), (oa zg cI 400 GRb), (oc7 sh (.ref fa) (nI ft)), (oq fa cF 200 FA), (oc1 (fe (rd5 i5)) (rk (rd5 i5)) (wd (rd5 i5)) (tw (rd5 i5)) (pa (rd5 i5)) (pb (rd5 i5)) (.ref lo5) (.ref (nw (rd5 i5))) (fm (rd5 i5))), (oc4 (nw (rd5 i5)) (kd (rd5 i5)) (st (rd5 i5)) (.ref r5) (gb (rd5 i5)) (it (rd5 i5)) (nI we5)), (oc6 r5 (.ref rx5) (.ref ry5) (nI (nN (mn (rd5 i5)))) (rgK (kd (rd5 i5)).toInt)), (oa rx5 cI cap5 X5), (oa ry5 cI cap5 Y5), (oc6 lo5 (.ref lx5) (.ref ly5) (nI ln5) 0), (oa lx5 cI (cl (rd5 i5)) LX5), (oa ly5 cI (cl (rd5 i5)) LY5)]) [12, 0, 1, 13, 14, 15, 2, 3, 4, 5, 6, 7, 8, 9, 10, 11] (by decide) rfl
                have hP : va_P (dC, dI) classes ([(oc5 ro (.ref za) (.ref zw) (.ref zx) (.ref zy) (.ref zg) (nI n5)), (oq za cF 200 RAk), (oa zw cI 200 WTk), (oa zx cI 400 (upd (upd EXk (2 * i5) (X5 0)) (2 * i5 + 1) (X5 ((nN (mn (rd5 i5))) - 1)))), (oa zy cI 400 (upd (upd EYk (2 * i5) (Y5 0)) (2 * i5 + 1) (Y5 ((nN (mn (rd5 i5))) - 1)))), (oa zg cI 400 GRb), (oc7 sh (.ref fa) (nI ft)), (oq fa cF 200 FA), (oc1 (fe (rd5 i5)) (rk (rd5 i5)) (wd (rd5 i5)) (tw (rd5 i5)) (pa (rd5 i5)) (pb (rd5 i5)) (.ref lo5) (.ref (nw (rd5 i5))) (fm (rd5 i5))), (oc4 (nw (rd5 i5)) (kd (rd5 i5)) (st (rd5 i5)) (.ref r5) (gb (rd5 i5)) (it (rd5 i5)) (nI we5)), (oc6 r5 (.ref rx5) (.ref ry5) (nI (nN (mn (rd5 i5)))) (rgK (kd (rd5 i5)).toInt)), (oa rx5 cI cap5 X5), (oa ry5 cI cap5 Y5), (oc6 lo5 (.ref lx5) (.ref ly5) (nI ln5) 0), (oa lx5 cI (cl (rd5 i5)) LX5), (oa ly5 cI (cl (rd5 i5)) LY5)] ++ va_pl T_1 f) H := hP
                have hD : va_D A ([(oc5 ro (.ref za) (.ref zw) (.ref zx) (.ref zy) (.ref zg) (nI n5)), (oq za cF 200 RAk), (oa zw cI 200 WTk), (oa zx cI 400 (upd (upd EXk (2 * i5) (X5 0)) (2 * i5 + 1) (X5 ((nN (mn (rd5 i5))) - 1)))), (oa zy cI 400 (upd (upd EYk (2 * i5) (Y5 0)) (2 * i5 + 1) (Y5 ((nN (mn (rd5 i5))) - 1)))), (oa zg cI 400 GRb), (oc7 sh (.ref fa) (nI ft)), (oq fa cF 200 FA), (oc1 (fe (rd5 i5)) (rk (rd5 i5)) (wd (rd5 i5)) (tw (rd5 i5)) (pa (rd5 i5)) (pb (rd5 i5)) (.ref lo5) (.ref (nw (rd5 i5))) (fm (rd5 i5))), (oc4 (nw (rd5 i5)) (kd (rd5 i5)) (st (rd5 i5)) (.ref r5) (gb (rd5 i5)) (it (rd5 i5)) (nI we5)), (oc6 r5 (.ref rx5) (.ref ry5) (nI (nN (mn (rd5 i5)))) (rgK (kd (rd5 i5)).toInt)), (oa rx5 cI cap5 X5), (oa ry5 cI cap5 Y5), (oc6 lo5 (.ref lx5) (.ref ly5) (nI ln5) 0), (oa lx5 cI (cl (rd5 i5)) LX5), (oa ly5 cI (cl (rd5 i5)) LY5)] ++ va_pl T_1 f) := hD
                have hP := pl_back (cs := [(oc1 (fe (rd5 i5)) (rk (rd5 i5)) (wd (rd5 i5)) (tw (rd5 i5)) (pa (rd5 i5)) (pb (rd5 i5)) (.ref lo5) (.ref (nw (rd5 i5))) (fm (rd5 i5))), (oc4 (nw (rd5 i5)) (kd (rd5 i5)) (st (rd5 i5)) (.ref r5) (gb (rd5 i5)) (it (rd5 i5)) (nI we5)), (oc6 r5 (.ref rx5) (.ref ry5) (nI (nN (mn (rd5 i5)))) (rgK (kd (rd5 i5)).toInt)), (oa rx5 cI cap5 X5), (oa ry5 cI cap5 Y5), (oc6 lo5 (.ref lx5) (.ref ly5) (nI ln5) 0), (oa lx5 cI (cl (rd5 i5)) LX5), (oa ly5 cI (cl (rd5 i5)) LY5)]) (L := L) (f := f) (X := [(oc5 ro (.ref za) (.ref zw) (.ref zx) (.ref zy) (.ref zg) (nI n5)), (oq za cF 200 RAk), (oa zw cI 200 WTk), (oa zx cI 400 (upd (upd EXk (2 * i5) (X5 0)) (2 * i5 + 1) (X5 ((nN (mn (rd5 i5))) - 1)))), (oa zy cI 400 (upd (upd EYk (2 * i5) (Y5 0)) (2 * i5 + 1) (Y5 ((nN (mn (rd5 i5))) - 1)))), (oa zg cI 400 GRb), (oc7 sh (.ref fa) (nI ft)), (oq fa cF 200 FA)]) (by rw [hT_1]; exact (show va_P (dC, dI) classes (([(oc5 ro (.ref za) (.ref zw) (.ref zx) (.ref zy) (.ref zg) (nI n5)), (oq za cF 200 RAk), (oa zw cI 200 WTk), (oa zx cI 400 (upd (upd EXk (2 * i5) (X5 0)) (2 * i5 + 1) (X5 ((nN (mn (rd5 i5))) - 1)))), (oa zy cI 400 (upd (upd EYk (2 * i5) (Y5 0)) (2 * i5 + 1) (Y5 ((nN (mn (rd5 i5))) - 1)))), (oa zg cI 400 GRb), (oc7 sh (.ref fa) (nI ft)), (oq fa cF 200 FA)] ++ [(oc1 (fe (rd5 i5)) (rk (rd5 i5)) (wd (rd5 i5)) (tw (rd5 i5)) (pa (rd5 i5)) (pb (rd5 i5)) (.ref lo5) (.ref (nw (rd5 i5))) (fm (rd5 i5))), (oc4 (nw (rd5 i5)) (kd (rd5 i5)) (st (rd5 i5)) (.ref r5) (gb (rd5 i5)) (it (rd5 i5)) (nI we5)), (oc6 r5 (.ref rx5) (.ref ry5) (nI (nN (mn (rd5 i5)))) (rgK (kd (rd5 i5)).toInt)), (oa rx5 cI cap5 X5), (oa ry5 cI cap5 Y5), (oc6 lo5 (.ref lx5) (.ref ly5) (nI ln5) 0), (oa lx5 cI (cl (rd5 i5)) LX5), (oa ly5 cI (cl (rd5 i5)) LY5)]) ++ va_pl T_1 f) H from hP)) hc9_1
                have hD : va_D A ([(oc5 ro (.ref za) (.ref zw) (.ref zx) (.ref zy) (.ref zg) (nI n5)), (oq za cF 200 RAk), (oa zw cI 200 WTk), (oa zx cI 400 (upd (upd EXk (2 * i5) (X5 0)) (2 * i5 + 1) (X5 ((nN (mn (rd5 i5))) - 1)))), (oa zy cI 400 (upd (upd EYk (2 * i5) (Y5 0)) (2 * i5 + 1) (Y5 ((nN (mn (rd5 i5))) - 1)))), (oa zg cI 400 GRb), (oc7 sh (.ref fa) (nI ft)), (oq fa cF 200 FA)] ++ va_pl L f) := vaD_ae hD0_1 rfl
                have hgr7 : grI (fun j => ((upd (upd EXk (2 * i5) (X5 0)) (2 * i5 + 1) (X5 (nN (mn (rd5 i5)) - 1))) j, (upd (upd EYk (2 * i5) (Y5 0)) (2 * i5 + 1) (Y5 (nN (mn (rd5 i5)) - 1))) j)) GRb (2 * i5 + 1 + 1) := by obtain ⟨ha1, ha2⟩ := hea1; subst ha2; obtain ⟨hb1, hb2⟩ := heb1; subst hb2; exact grI_s (grI_s hgr ha1 hea2 hea3) hb1 heb2 heb3
                have hen7 : ∀ k, k < i5 + 1 → ((upd (upd EXk (2 * i5) (X5 0)) (2 * i5 + 1) (X5 (nN (mn (rd5 i5)) - 1))) (2 * k), (upd (upd EYk (2 * i5) (Y5 0)) (2 * i5 + 1) (Y5 (nN (mn (rd5 i5)) - 1))) (2 * k)) = chB cx cy (rd5 k) ∧ ((upd (upd EXk (2 * i5) (X5 0)) (2 * i5 + 1) (X5 (nN (mn (rd5 i5)) - 1))) (2 * k + 1), (upd (upd EYk (2 * i5) (Y5 0)) (2 * i5 + 1) (Y5 (nN (mn (rd5 i5)) - 1))) (2 * k + 1)) = chL mn cx cy (rd5 k) := fun k hk => by rcases Nat.lt_or_ge k i5 with h9 | h9; (have h8 := hen k h9; rw [upo9 (by omega), upo9 (by omega), upo9 (by omega), upo9 (by omega), upo9 (by omega), upo9 (by omega), upo9 (by omega), upo9 (by omega)]; exact h8); (rw [show k = i5 by omega, up_at, up_at, upo9 (by omega), up_at, upo9 (by omega), up_at, (hX5 0 (by omega)).1, (hX5 0 (by omega)).2, (hX5 _ (show nN (mn (rd5 i5)) - 1 < nN (mn (rd5 i5)) by omega)).1, (hX5 _ (show nN (mn (rd5 i5)) - 1 < nN (mn (rd5 i5)) by omega)).2]; exact ⟨rfl, chL_e (by omega)⟩)
                refine lv_iinc (v := nI (i5 + 1)) (lv' := [(2, .int (nI (i5 + 1))), (3, .ref r5), (0, .ref ro), (1, .ref sh)]) hx hb dX6_gather_168 hl (k := 1) rfl (nI_add i5 1) (by decide) rfl (fun ls hl => ?_)
                refine lv_goto (tgt := 73) hx hb dX6_gather_171 (by decide) ?_
                exact ih_73 (i5 + 1) (upd (upd EXk (2 * i5) (X5 0)) (2 * i5 + 1) (X5 ((nN (mn (rd5 i5))) - 1))) (upd (upd EYk (2 * i5) (Y5 0)) (2 * i5 + 1) (Y5 ((nN (mn (rd5 i5))) - 1))) GRb H locs ls (by omega) (by omega) (by rw [show 2 * (i5 + 1) = 2 * i5 + 1 + 1 by omega]; exact hgr7) (hen7) hP hD hS (lv_sub hl [0, 2, 3] rfl)
        exact hl_73 _ 0 EX EY GR H locs ls (Nat.lt_succ_self _) (by omega) (by intro j hj; omega) (by intro k hk; omega) hP hD hS (lv_sub hl [0, 1, 2] rfl)
      · have c_1 : ((g5 : Nat) : Int) < ((ft : Nat) : Int) := zc_nle (nI_toInt (by omega)) (nI_toInt (by omega)) c_1
        rcases vwA_3 (P9 := ((st g5).toInt = 1)) (hva g5 (by omega)) with ⟨ht2, fe2, lk2, lo2, we2, fm2, hFA2, hfe2, hlk2⟩ | ⟨ht2, hA2, fe2, lk2, lo2, we2, fm2, r2, rx2, ry2, cap2, U2, V2, rg2, hFA2, hfe2, hlk2, ⟨hr2, hrx2, hry2, hne2⟩, hrr2⟩ | ⟨ht2, hA2, fe2, lk2, lo2, we2, fm2, r2, rx2, ry2, cap2, U2, V2, rg2, hFA2, hfe2, hlk2, ⟨hr2, hrx2, hry2, hne2⟩, hrr2⟩
        · skip
          have hnR : ¬ (rdF ft st tn kd) g5 := fun h => ht2 h.1.2.2
          have hc9_1 : inPl L f [(oc1 fe2 (rk g5) (wd g5) (tw g5) (pa g5) (pb g5) (.ref lo2) (.ref lk2) fm2), (oc4 lk2 (kd g5) (st g5) .null (gb g5) (it g5) we2)] := ⟨hfe2, hlk2, trivial⟩
          have hD0_1 := hD
          obtain ⟨hP, hD⟩ := pl_out hP hD [(oc1 fe2 (rk g5) (wd g5) (tw g5) (pa g5) (pb g5) (.ref lo2) (.ref lk2) fm2), (oc4 lk2 (kd g5) (st g5) .null (gb g5) (it g5) we2)] hc9_1 (pwF hfe2.2 hlk2.2)
          generalize hT_1 : outPl L [(oc1 fe2 (rk g5) (wd g5) (tw g5) (pa g5) (pb g5) (.ref lo2) (.ref lk2) fm2), (oc4 lk2 (kd g5) (st g5) .null (gb g5) (it g5) we2)] = T_1 at hP hD
          have hP : va_P (dC, dI) classes ([(oc5 ro (.ref za) (.ref zw) (.ref zx) (.ref zy) (.ref zg) (nI n5)), (oq za cF 200 RAk), (oa zw cI 200 WTk), (oa zx cI 400 EX), (oa zy cI 400 EY), (oa zg cI 400 GR), (oc7 sh (.ref fa) (nI ft)), (oq fa cF 200 FA), (oc1 fe2 (rk g5) (wd g5) (tw g5) (pa g5) (pb g5) (.ref lo2) (.ref lk2) fm2), (oc4 lk2 (kd g5) (st g5) .null (gb g5) (it g5) we2)] ++ va_pl T_1 f) H := hP
          have hD : va_D A ([(oc5 ro (.ref za) (.ref zw) (.ref zx) (.ref zy) (.ref zg) (nI n5)), (oq za cF 200 RAk), (oa zw cI 200 WTk), (oa zx cI 400 EX), (oa zy cI 400 EY), (oa zg cI 400 GR), (oc7 sh (.ref fa) (nI ft)), (oq fa cF 200 FA), (oc1 fe2 (rk g5) (wd g5) (tw g5) (pa g5) (pb g5) (.ref lo2) (.ref lk2) fm2), (oc4 lk2 (kd g5) (st g5) .null (gb g5) (it g5) we2)] ++ va_pl T_1 f) := hD
          refine lv_aload_n hx hb dX6_gather_15 rfl (lv_at hl 2 rfl) ?_
          refine lv_iload_n hx hb dX6_gather_16 rfl (lv_at hl 0 rfl) ?_
          have hPc := hP.sub (ws' := [(oc7 sh (.ref fa) (nI ft)), (oq fa cF 200 FA)]) [6, 7] rfl
          have hDc := hD.sub (ws' := [(oc7 sh (.ref fa) (nI ft)), (oq fa cF 200 FA)]) [6, 7] (by decide) rfl
          have hFc := va_free (wc := [(oc7 sh (.ref fa) (nI ft)), (oq fa cF 200 FA)]) hD hS hA [6, 7] rfl
          refine zcall (st1 := [.ref fe2]) (va_runV (As := [.int (nI g5)]) (rest := []) ⟨hx, hb, hml, hown, hts⟩ (k_Sheet_find l dC dI cI cZ cF H.size sh fa ft FA g5 fe2 (by omega) (by omega) (hFA2)) (cwV 1 hts (zz_gV mw_1000 mw_499 mw_500 mw_100 mc_yX8_find) rfl rfl rfl (by decide +kernel) ⟨Nat.le_of_ble_eq_true rfl, Nat.le_of_ble_eq_true rfl⟩) (zPV2 (q0 := 0) (ci := 7) hPc hDc hK hXN rfl rfl) rfl rfl hl.1 rfl (lv_room (Nat.le_of_ble_eq_true rfl)) dX6_gather_17 ⟨Nat.le_of_ble_eq_true rfl, Nat.le_of_ble_eq_true rfl⟩) hS hFc hFc rfl (fun t H1 locs ht hB hk1 hS => ?_)
          obtain ⟨hP1, hD1⟩ := hB
          rw [ht] at hP1
          obtain ⟨hP, hD⟩ := va_joinQ (wr := [(oc5 ro (.ref za) (.ref zw) (.ref zx) (.ref zy) (.ref zg) (nI n5)), (oq za cF 200 RAk), (oa zw cI 200 WTk), (oa zx cI 400 EX), (oa zy cI 400 EY), (oa zg cI 400 GR), (oc1 fe2 (rk g5) (wd g5) (tw g5) (pa g5) (pb g5) (.ref lo2) (.ref lk2) fm2), (oc4 lk2 (kd g5) (st g5) .null (gb g5) (it g5) we2)]) (w1 := [(oc7 sh (.ref fa) (nI ft)), (oq fa cF 200 FA)]) hP hD [6, 7] [0, 1, 2, 3, 4, 5, 8, 9] rfl rfl (by decide) (by decide) hk1 hFc hP1 hD1
          clear hk1 hPc hDc hFc hP1 hD1 ht
          generalize H1 = H at hP hS ⊢
          have hP := hP.part (cx := [(oc5 ro (.ref za) (.ref zw) (.ref zx) (.ref zy) (.ref zg) (nI n5)), (oq za cF 200 RAk), (oa zw cI 200 WTk), (oa zx cI 400 EX), (oa zy cI 400 EY), (oa zg cI 400 GR), (oc7 sh (.ref fa) (nI ft)), (oq fa cF 200 FA), (oc1 fe2 (rk g5) (wd g5) (tw g5) (pa g5) (pb g5) (.ref lo2) (.ref lk2) fm2), (oc4 lk2 (kd g5) (st g5) .null (gb g5) (it g5) we2)]) [0, 1, 2, 3, 4, 5, 8, 9, 6, 7] rfl
          have hD := hD.part (cx := [(oc5 ro (.ref za) (.ref zw) (.ref zx) (.ref zy) (.ref zg) (nI n5)), (oq za cF 200 RAk), (oa zw cI 200 WTk), (oa zx cI 400 EX), (oa zy cI 400 EY), (oa zg cI 400 GR), (oc7 sh (.ref fa) (nI ft)), (oq fa cF 200 FA), (oc1 fe2 (rk g5) (wd g5) (tw g5) (pa g5) (pb g5) (.ref lo2) (.ref lk2) fm2), (oc4 lk2 (kd g5) (st g5) .null (gb g5) (it g5) we2)]) [0, 1, 2, 3, 4, 5, 8, 9, 6, 7] (by decide) rfl
          have hP : va_P (dC, dI) classes ([(oc5 ro (.ref za) (.ref zw) (.ref zx) (.ref zy) (.ref zg) (nI n5)), (oq za cF 200 RAk), (oa zw cI 200 WTk), (oa zx cI 400 EX), (oa zy cI 400 EY), (oa zg cI 400 GR), (oc7 sh (.ref fa) (nI ft)), (oq fa cF 200 FA), (oc1 fe2 (rk g5) (wd g5) (tw g5) (pa g5) (pb g5) (.ref lo2) (.ref lk2) fm2), (oc4 lk2 (kd g5) (st g5) .null (gb g5) (it g5) we2)] ++ va_pl T_1 f) H := hP
          have hD : va_D A ([(oc5 ro (.ref za) (.ref zw) (.ref zx) (.ref zy) (.ref zg) (nI n5)), (oq za cF 200 RAk), (oa zw cI 200 WTk), (oa zx cI 400 EX), (oa zy cI 400 EY), (oa zg cI 400 GR), (oc7 sh (.ref fa) (nI ft)), (oq fa cF 200 FA), (oc1 fe2 (rk g5) (wd g5) (tw g5) (pa g5) (pb g5) (.ref lo2) (.ref lk2) fm2), (oc4 lk2 (kd g5) (st g5) .null (gb g5) (it g5) we2)] ++ va_pl T_1 f) := hD
          refine lv_astore_n (lv' := [(3, .ref fe2), (2, .int (nI g5)), (0, .ref ro), (1, .ref sh)]) hx hb dX6_gather_20 rfl hl (by decide) rfl (fun ls hl => ?_)
          refine lv_aload_n hx hb dX6_gather_21 rfl (lv_at hl 3 rfl) ?_
          refine lv_iload_n hx hb dX6_gather_22 rfl (lv_at hl 1 rfl) ?_
          have hPc := hP.sub (ws' := [(oc7 sh (.ref fa) (nI ft)), (oq fa cF 200 FA), (oc1 fe2 (rk g5) (wd g5) (tw g5) (pa g5) (pb g5) (.ref lo2) (.ref lk2) fm2), (oc4 lk2 (kd g5) (st g5) .null (gb g5) (it g5) we2)]) [6, 7, 8, 9] rfl
          have hDc := hD.sub (ws' := [(oc7 sh (.ref fa) (nI ft)), (oq fa cF 200 FA), (oc1 fe2 (rk g5) (wd g5) (tw g5) (pa g5) (pb g5) (.ref lo2) (.ref lk2) fm2), (oc4 lk2 (kd g5) (st g5) .null (gb g5) (it g5) we2)]) [6, 7, 8, 9] (by decide) rfl
          have hFc := va_free (wc := [(oc7 sh (.ref fa) (nI ft)), (oq fa cF 200 FA), (oc1 fe2 (rk g5) (wd g5) (tw g5) (pa g5) (pb g5) (.ref lo2) (.ref lk2) fm2), (oc4 lk2 (kd g5) (st g5) .null (gb g5) (it g5) we2)]) hD hS hA [6, 7, 8, 9] rfl
          refine zcall (st1 := [.null]) (va_runV (As := [.int (nI g5)]) (rest := []) ⟨hx, hb, hml, hown, hts⟩ (k_Sheet_rowThere_tv l dC dI cI cZ cF H.size sh fa ft FA g5 fe2 lo2 (rk g5) (wd g5) (tw g5) (pa g5) (pb g5) lk2 (kd g5) (st g5) (gb g5) (it g5) we2 fm2 (by omega) (by omega) (hFA2)) (cwV 1 hts (zz_gV mw_1001 mw_613 mw_614 mw_100 mc_yX8_rowThere) rfl rfl rfl (by decide +kernel) ⟨Nat.le_of_ble_eq_true rfl, Nat.le_of_ble_eq_true rfl⟩) (zPV2 (q0 := 0) (ci := 7) hPc hDc hK hXN rfl rfl) rfl rfl hl.1 rfl (lv_room (Nat.le_of_ble_eq_true rfl)) dX6_gather_23 ⟨Nat.le_of_ble_eq_true rfl, Nat.le_of_ble_eq_true rfl⟩) hS hFc hFc rfl (fun t H1 locs ht hB hk1 hS => ?_)
          obtain ⟨hP1, hD1⟩ := hB
          rw [ht] at hP1
          obtain ⟨hP, hD⟩ := va_joinQ (wr := [(oc5 ro (.ref za) (.ref zw) (.ref zx) (.ref zy) (.ref zg) (nI n5)), (oq za cF 200 RAk), (oa zw cI 200 WTk), (oa zx cI 400 EX), (oa zy cI 400 EY), (oa zg cI 400 GR)]) (w1 := [(oc7 sh (.ref fa) (nI ft)), (oq fa cF 200 FA), (oc1 fe2 (rk g5) (wd g5) (tw g5) (pa g5) (pb g5) (.ref lo2) (.ref lk2) fm2), (oc4 lk2 (kd g5) (st g5) .null (gb g5) (it g5) we2)]) hP hD [6, 7, 8, 9] [0, 1, 2, 3, 4, 5] rfl rfl (by decide) (by decide) hk1 hFc hP1 hD1
          clear hk1 hPc hDc hFc hP1 hD1 ht
          generalize H1 = H at hP hS ⊢
          have hP : va_P (dC, dI) classes ([(oc5 ro (.ref za) (.ref zw) (.ref zx) (.ref zy) (.ref zg) (nI n5)), (oq za cF 200 RAk), (oa zw cI 200 WTk), (oa zx cI 400 EX), (oa zy cI 400 EY), (oa zg cI 400 GR), (oc7 sh (.ref fa) (nI ft)), (oq fa cF 200 FA), (oc1 fe2 (rk g5) (wd g5) (tw g5) (pa g5) (pb g5) (.ref lo2) (.ref lk2) fm2), (oc4 lk2 (kd g5) (st g5) .null (gb g5) (it g5) we2)] ++ va_pl T_1 f) H := hP
          have hD : va_D A ([(oc5 ro (.ref za) (.ref zw) (.ref zx) (.ref zy) (.ref zg) (nI n5)), (oq za cF 200 RAk), (oa zw cI 200 WTk), (oa zx cI 400 EX), (oa zy cI 400 EY), (oa zg cI 400 GR), (oc7 sh (.ref fa) (nI ft)), (oq fa cF 200 FA), (oc1 fe2 (rk g5) (wd g5) (tw g5) (pa g5) (pb g5) (.ref lo2) (.ref lk2) fm2), (oc4 lk2 (kd g5) (st g5) .null (gb g5) (it g5) we2)] ++ va_pl T_1 f) := hD
          refine lv_astoreN (lv' := [(4, .null), (3, .ref fe2), (2, .int (nI g5)), (0, .ref ro), (1, .ref sh)]) hx hb dX6_gather_26 hl (by decide) rfl (fun ls hl => ?_)
          refine lv_aload_n hx hb dX6_gather_28 rfl (lv_at hl 1 rfl) ?_
          refine lv_ifnull hx hb dX6_gather_29 ?_
          refine lv_aloadN hx hb dX6_gather_32 (lv_at hl 0 rfl) ?_
          refine lv_ifnullN (tgt := 65) hx hb dX6_gather_34 (by decide) ?_
          have hP := pl_back (cs := [(oc1 fe2 (rk g5) (wd g5) (tw g5) (pa g5) (pb g5) (.ref lo2) (.ref lk2) fm2), (oc4 lk2 (kd g5) (st g5) .null (gb g5) (it g5) we2)]) (L := L) (f := f) (X := [(oc5 ro (.ref za) (.ref zw) (.ref zx) (.ref zy) (.ref zg) (nI n5)), (oq za cF 200 RAk), (oa zw cI 200 WTk), (oa zx cI 400 EX), (oa zy cI 400 EY), (oa zg cI 400 GR), (oc7 sh (.ref fa) (nI ft)), (oq fa cF 200 FA)]) (by rw [hT_1]; exact (show va_P (dC, dI) classes (([(oc5 ro (.ref za) (.ref zw) (.ref zx) (.ref zy) (.ref zg) (nI n5)), (oq za cF 200 RAk), (oa zw cI 200 WTk), (oa zx cI 400 EX), (oa zy cI 400 EY), (oa zg cI 400 GR), (oc7 sh (.ref fa) (nI ft)), (oq fa cF 200 FA)] ++ [(oc1 fe2 (rk g5) (wd g5) (tw g5) (pa g5) (pb g5) (.ref lo2) (.ref lk2) fm2), (oc4 lk2 (kd g5) (st g5) .null (gb g5) (it g5) we2)]) ++ va_pl T_1 f) H from hP)) hc9_1
          have hD : va_D A ([(oc5 ro (.ref za) (.ref zw) (.ref zx) (.ref zy) (.ref zg) (nI n5)), (oq za cF 200 RAk), (oa zw cI 200 WTk), (oa zx cI 400 EX), (oa zy cI 400 EY), (oa zg cI 400 GR), (oc7 sh (.ref fa) (nI ft)), (oq fa cF 200 FA)] ++ va_pl L f) := vaD_ae hD0_1 rfl
          have hS7 := rdS_skip hSr hnR
          refine lv_iinc (v := nI (g5 + 1)) (lv' := [(2, .int (nI (g5 + 1))), (4, .null), (3, .ref fe2), (0, .ref ro), (1, .ref sh)]) hx hb dX6_gather_65 hl (k := 2) rfl (nI_add g5 1) (by decide) rfl (fun ls hl => ?_)
          refine lv_goto (tgt := 7) hx hb dX6_gather_68 (by decide) ?_
          exact ih_7 (g5 + 1) n5 rd5 RAk WTk H locs ls (by omega) (by omega) (hS7) (by first | exact hA7 | exact hAr) hP hD hS (lv_sub hl [0, 3, 4] rfl)
        · skip
          have hcap2 := hrr2.1
          have hcap3 := hrr2.2.1
          have hlv2 : lvF ft st tn g5 := ⟨by omega, hA2, ht2⟩
          have hw2 := hwf g5 hlv2
          have hq2 := rw_pls hrr2 hw2
          have hn2 := hw2.2.1
          have hrk2 := hrk g5 hlv2
          have hwb2 := chW_b hrk2 hw2
          have hfe9 : fe2 = fe g5 := Option.some.inj (hFA2.symm.trans (hAf g5 (by omega)))
          have hc9_1 : inPl L f [(oc1 fe2 (rk g5) (wd g5) (tw g5) (pa g5) (pb g5) (.ref lo2) (.ref lk2) fm2), (oc4 lk2 (kd g5) (st g5) (.ref r2) (gb g5) (it g5) we2), (oc6 r2 (.ref rx2) (.ref ry2) (nI (nN (mn g5))) rg2), (oa rx2 cI cap2 U2), (oa ry2 cI cap2 V2)] := ⟨hfe2, hlk2, hr2, hrx2, hry2, trivial⟩
          have hD0_1 := hD
          obtain ⟨hP, hD⟩ := pl_out hP hD [(oc1 fe2 (rk g5) (wd g5) (tw g5) (pa g5) (pb g5) (.ref lo2) (.ref lk2) fm2), (oc4 lk2 (kd g5) (st g5) (.ref r2) (gb g5) (it g5) we2), (oc6 r2 (.ref rx2) (.ref ry2) (nI (nN (mn g5))) rg2), (oa rx2 cI cap2 U2), (oa ry2 cI cap2 V2)] hc9_1 (pwR hfe2.2 hlk2.2 hr2.2 hrx2.2 hry2.2 hne2)
          generalize hT_1 : outPl L [(oc1 fe2 (rk g5) (wd g5) (tw g5) (pa g5) (pb g5) (.ref lo2) (.ref lk2) fm2), (oc4 lk2 (kd g5) (st g5) (.ref r2) (gb g5) (it g5) we2), (oc6 r2 (.ref rx2) (.ref ry2) (nI (nN (mn g5))) rg2), (oa rx2 cI cap2 U2), (oa ry2 cI cap2 V2)] = T_1 at hP hD
          have hP : va_P (dC, dI) classes ([(oc5 ro (.ref za) (.ref zw) (.ref zx) (.ref zy) (.ref zg) (nI n5)), (oq za cF 200 RAk), (oa zw cI 200 WTk), (oa zx cI 400 EX), (oa zy cI 400 EY), (oa zg cI 400 GR), (oc7 sh (.ref fa) (nI ft)), (oq fa cF 200 FA), (oc1 fe2 (rk g5) (wd g5) (tw g5) (pa g5) (pb g5) (.ref lo2) (.ref lk2) fm2), (oc4 lk2 (kd g5) (st g5) (.ref r2) (gb g5) (it g5) we2), (oc6 r2 (.ref rx2) (.ref ry2) (nI (nN (mn g5))) rg2), (oa rx2 cI cap2 U2), (oa ry2 cI cap2 V2)] ++ va_pl T_1 f) H := hP
          have hD : va_D A ([(oc5 ro (.ref za) (.ref zw) (.ref zx) (.ref zy) (.ref zg) (nI n5)), (oq za cF 200 RAk), (oa zw cI 200 WTk), (oa zx cI 400 EX), (oa zy cI 400 EY), (oa zg cI 400 GR), (oc7 sh (.ref fa) (nI ft)), (oq fa cF 200 FA), (oc1 fe2 (rk g5) (wd g5) (tw g5) (pa g5) (pb g5) (.ref lo2) (.ref lk2) fm2), (oc4 lk2 (kd g5) (st g5) (.ref r2) (gb g5) (it g5) we2), (oc6 r2 (.ref rx2) (.ref ry2) (nI (nN (mn g5))) rg2), (oa rx2 cI cap2 U2), (oa ry2 cI cap2 V2)] ++ va_pl T_1 f) := hD
          refine lv_aload_n hx hb dX6_gather_15 rfl (lv_at hl 2 rfl) ?_
          refine lv_iload_n hx hb dX6_gather_16 rfl (lv_at hl 0 rfl) ?_
          have hPc := hP.sub (ws' := [(oc7 sh (.ref fa) (nI ft)), (oq fa cF 200 FA)]) [6, 7] rfl
          have hDc := hD.sub (ws' := [(oc7 sh (.ref fa) (nI ft)), (oq fa cF 200 FA)]) [6, 7] (by decide) rfl
          have hFc := va_free (wc := [(oc7 sh (.ref fa) (nI ft)), (oq fa cF 200 FA)]) hD hS hA [6, 7] rfl
          refine zcall (st1 := [.ref fe2]) (va_runV (As := [.int (nI g5)]) (rest := []) ⟨hx, hb, hml, hown, hts⟩ (k_Sheet_find l dC dI cI cZ cF H.size sh fa ft FA g5 fe2 (by omega) (by omega) (hFA2)) (cwV 1 hts (zz_gV mw_1000 mw_499 mw_500 mw_100 mc_yX8_find) rfl rfl rfl (by decide +kernel) ⟨Nat.le_of_ble_eq_true rfl, Nat.le_of_ble_eq_true rfl⟩) (zPV2 (q0 := 0) (ci := 7) hPc hDc hK hXN rfl rfl) rfl rfl hl.1 rfl (lv_room (Nat.le_of_ble_eq_true rfl)) dX6_gather_17 ⟨Nat.le_of_ble_eq_true rfl, Nat.le_of_ble_eq_true rfl⟩) hS hFc hFc rfl (fun t H1 locs ht hB hk1 hS => ?_)
          obtain ⟨hP1, hD1⟩ := hB
          rw [ht] at hP1
          obtain ⟨hP, hD⟩ := va_joinQ (wr := [(oc5 ro (.ref za) (.ref zw) (.ref zx) (.ref zy) (.ref zg) (nI n5)), (oq za cF 200 RAk), (oa zw cI 200 WTk), (oa zx cI 400 EX), (oa zy cI 400 EY), (oa zg cI 400 GR), (oc1 fe2 (rk g5) (wd g5) (tw g5) (pa g5) (pb g5) (.ref lo2) (.ref lk2) fm2), (oc4 lk2 (kd g5) (st g5) (.ref r2) (gb g5) (it g5) we2), (oc6 r2 (.ref rx2) (.ref ry2) (nI (nN (mn g5))) rg2), (oa rx2 cI cap2 U2), (oa ry2 cI cap2 V2)]) (w1 := [(oc7 sh (.ref fa) (nI ft)), (oq fa cF 200 FA)]) hP hD [6, 7] [0, 1, 2, 3, 4, 5, 8, 9, 10, 11, 12] rfl rfl (by decide) (by decide) hk1 hFc hP1 hD1
          clear hk1 hPc hDc hFc hP1 hD1 ht
          generalize H1 = H at hP hS ⊢
          have hP := hP.part (cx := [(oc5 ro (.ref za) (.ref zw) (.ref zx) (.ref zy) (.ref zg) (nI n5)), (oq za cF 200 RAk), (oa zw cI 200 WTk), (oa zx cI 400 EX), (oa zy cI 400 EY), (oa zg cI 400 GR), (oc7 sh (.ref fa) (nI ft)), (oq fa cF 200 FA), (oc1 fe2 (rk g5) (wd g5) (tw g5) (pa g5) (pb g5) (.ref lo2) (.ref lk2) fm2), (oc4 lk2 (kd g5) (st g5) (.ref r2) (gb g5) (it g5) we2), (oc6 r2 (.ref rx2) (.ref ry2) (nI (nN (mn g5))) rg2), (oa rx2 cI cap2 U2), (oa ry2 cI cap2 V2)]) [0, 1, 2, 3, 4, 5, 11, 12, 6, 7, 8, 9, 10] rfl
          have hD := hD.part (cx := [(oc5 ro (.ref za) (.ref zw) (.ref zx) (.ref zy) (.ref zg) (nI n5)), (oq za cF 200 RAk), (oa zw cI 200 WTk), (oa zx cI 400 EX), (oa zy cI 400 EY), (oa zg cI 400 GR), (oc7 sh (.ref fa) (nI ft)), (oq fa cF 200 FA), (oc1 fe2 (rk g5) (wd g5) (tw g5) (pa g5) (pb g5) (.ref lo2) (.ref lk2) fm2), (oc4 lk2 (kd g5) (st g5) (.ref r2) (gb g5) (it g5) we2), (oc6 r2 (.ref rx2) (.ref ry2) (nI (nN (mn g5))) rg2), (oa rx2 cI cap2 U2), (oa ry2 cI cap2 V2)]) [0, 1, 2, 3, 4, 5, 11, 12, 6, 7, 8, 9, 10] (by decide) rfl
          have hP : va_P (dC, dI) classes ([(oc5 ro (.ref za) (.ref zw) (.ref zx) (.ref zy) (.ref zg) (nI n5)), (oq za cF 200 RAk), (oa zw cI 200 WTk), (oa zx cI 400 EX), (oa zy cI 400 EY), (oa zg cI 400 GR), (oc7 sh (.ref fa) (nI ft)), (oq fa cF 200 FA), (oc1 fe2 (rk g5) (wd g5) (tw g5) (pa g5) (pb g5) (.ref lo2) (.ref lk2) fm2), (oc4 lk2 (kd g5) (st g5) (.ref r2) (gb g5) (it g5) we2), (oc6 r2 (.ref rx2) (.ref ry2) (nI (nN (mn g5))) rg2), (oa rx2 cI cap2 U2), (oa ry2 cI cap2 V2)] ++ va_pl T_1 f) H := hP
          have hD : va_D A ([(oc5 ro (.ref za) (.ref zw) (.ref zx) (.ref zy) (.ref zg) (nI n5)), (oq za cF 200 RAk), (oa zw cI 200 WTk), (oa zx cI 400 EX), (oa zy cI 400 EY), (oa zg cI 400 GR), (oc7 sh (.ref fa) (nI ft)), (oq fa cF 200 FA), (oc1 fe2 (rk g5) (wd g5) (tw g5) (pa g5) (pb g5) (.ref lo2) (.ref lk2) fm2), (oc4 lk2 (kd g5) (st g5) (.ref r2) (gb g5) (it g5) we2), (oc6 r2 (.ref rx2) (.ref ry2) (nI (nN (mn g5))) rg2), (oa rx2 cI cap2 U2), (oa ry2 cI cap2 V2)] ++ va_pl T_1 f) := hD
          refine lv_astore_n (lv' := [(3, .ref fe2), (2, .int (nI g5)), (0, .ref ro), (1, .ref sh)]) hx hb dX6_gather_20 rfl hl (by decide) rfl (fun ls hl => ?_)
          refine lv_aload_n hx hb dX6_gather_21 rfl (lv_at hl 3 rfl) ?_
          refine lv_iload_n hx hb dX6_gather_22 rfl (lv_at hl 1 rfl) ?_
          have hPc := hP.sub (ws' := [(oc7 sh (.ref fa) (nI ft)), (oq fa cF 200 FA), (oc1 fe2 (rk g5) (wd g5) (tw g5) (pa g5) (pb g5) (.ref lo2) (.ref lk2) fm2), (oc4 lk2 (kd g5) (st g5) (.ref r2) (gb g5) (it g5) we2)]) [6, 7, 8, 9] rfl
          have hDc := hD.sub (ws' := [(oc7 sh (.ref fa) (nI ft)), (oq fa cF 200 FA), (oc1 fe2 (rk g5) (wd g5) (tw g5) (pa g5) (pb g5) (.ref lo2) (.ref lk2) fm2), (oc4 lk2 (kd g5) (st g5) (.ref r2) (gb g5) (it g5) we2)]) [6, 7, 8, 9] (by decide) rfl
          have hFc := va_free (wc := [(oc7 sh (.ref fa) (nI ft)), (oq fa cF 200 FA), (oc1 fe2 (rk g5) (wd g5) (tw g5) (pa g5) (pb g5) (.ref lo2) (.ref lk2) fm2), (oc4 lk2 (kd g5) (st g5) (.ref r2) (gb g5) (it g5) we2)]) hD hS hA [6, 7, 8, 9] rfl
          refine zcall (st1 := [.ref r2]) (va_runV (As := [.int (nI g5)]) (rest := []) ⟨hx, hb, hml, hown, hts⟩ (k_Sheet_rowThere_yv l dC dI cI cZ cF H.size sh fa ft FA g5 fe2 lo2 (rk g5) (wd g5) (tw g5) (pa g5) (pb g5) lk2 (kd g5) (st g5) (gb g5) (it g5) we2 r2 fm2 (by omega) (by omega) (hFA2) (by first | exact hA2 | omega)) (cwV 1 hts (zz_gV mw_1001 mw_613 mw_614 mw_100 mc_yX8_rowThere) rfl rfl rfl (by decide +kernel) ⟨Nat.le_of_ble_eq_true rfl, Nat.le_of_ble_eq_true rfl⟩) (zPV2 (q0 := 0) (ci := 7) hPc hDc hK hXN rfl rfl) rfl rfl hl.1 rfl (lv_room (Nat.le_of_ble_eq_true rfl)) dX6_gather_23 ⟨Nat.le_of_ble_eq_true rfl, Nat.le_of_ble_eq_true rfl⟩) hS hFc hFc rfl (fun t H1 locs ht hB hk1 hS => ?_)
          obtain ⟨hP1, hD1⟩ := hB
          rw [ht] at hP1
          obtain ⟨hP, hD⟩ := va_joinQ (wr := [(oc5 ro (.ref za) (.ref zw) (.ref zx) (.ref zy) (.ref zg) (nI n5)), (oq za cF 200 RAk), (oa zw cI 200 WTk), (oa zx cI 400 EX), (oa zy cI 400 EY), (oa zg cI 400 GR), (oc6 r2 (.ref rx2) (.ref ry2) (nI (nN (mn g5))) rg2), (oa rx2 cI cap2 U2), (oa ry2 cI cap2 V2)]) (w1 := [(oc7 sh (.ref fa) (nI ft)), (oq fa cF 200 FA), (oc1 fe2 (rk g5) (wd g5) (tw g5) (pa g5) (pb g5) (.ref lo2) (.ref lk2) fm2), (oc4 lk2 (kd g5) (st g5) (.ref r2) (gb g5) (it g5) we2)]) hP hD [6, 7, 8, 9] [0, 1, 2, 3, 4, 5, 10, 11, 12] rfl rfl (by decide) (by decide) hk1 hFc hP1 hD1
          clear hk1 hPc hDc hFc hP1 hD1 ht
          generalize H1 = H at hP hS ⊢
          have hP := hP.part (cx := [(oc5 ro (.ref za) (.ref zw) (.ref zx) (.ref zy) (.ref zg) (nI n5)), (oq za cF 200 RAk), (oa zw cI 200 WTk), (oa zx cI 400 EX), (oa zy cI 400 EY), (oa zg cI 400 GR), (oc7 sh (.ref fa) (nI ft)), (oq fa cF 200 FA), (oc1 fe2 (rk g5) (wd g5) (tw g5) (pa g5) (pb g5) (.ref lo2) (.ref lk2) fm2), (oc4 lk2 (kd g5) (st g5) (.ref r2) (gb g5) (it g5) we2), (oc6 r2 (.ref rx2) (.ref ry2) (nI (nN (mn g5))) rg2), (oa rx2 cI cap2 U2), (oa ry2 cI cap2 V2)]) [0, 1, 2, 3, 4, 5, 9, 10, 11, 12, 6, 7, 8] rfl
          have hD := hD.part (cx := [(oc5 ro (.ref za) (.ref zw) (.ref zx) (.ref zy) (.ref zg) (nI n5)), (oq za cF 200 RAk), (oa zw cI 200 WTk), (oa zx cI 400 EX), (oa zy cI 400 EY), (oa zg cI 400 GR), (oc7 sh (.ref fa) (nI ft)), (oq fa cF 200 FA), (oc1 fe2 (rk g5) (wd g5) (tw g5) (pa g5) (pb g5) (.ref lo2) (.ref lk2) fm2), (oc4 lk2 (kd g5) (st g5) (.ref r2) (gb g5) (it g5) we2), (oc6 r2 (.ref rx2) (.ref ry2) (nI (nN (mn g5))) rg2), (oa rx2 cI cap2 U2), (oa ry2 cI cap2 V2)]) [0, 1, 2, 3, 4, 5, 9, 10, 11, 12, 6, 7, 8] (by decide) rfl
          have hP : va_P (dC, dI) classes ([(oc5 ro (.ref za) (.ref zw) (.ref zx) (.ref zy) (.ref zg) (nI n5)), (oq za cF 200 RAk), (oa zw cI 200 WTk), (oa zx cI 400 EX), (oa zy cI 400 EY), (oa zg cI 400 GR), (oc7 sh (.ref fa) (nI ft)), (oq fa cF 200 FA), (oc1 fe2 (rk g5) (wd g5) (tw g5) (pa g5) (pb g5) (.ref lo2) (.ref lk2) fm2), (oc4 lk2 (kd g5) (st g5) (.ref r2) (gb g5) (it g5) we2), (oc6 r2 (.ref rx2) (.ref ry2) (nI (nN (mn g5))) rg2), (oa rx2 cI cap2 U2), (oa ry2 cI cap2 V2)] ++ va_pl T_1 f) H := hP
          have hD : va_D A ([(oc5 ro (.ref za) (.ref zw) (.ref zx) (.ref zy) (.ref zg) (nI n5)), (oq za cF 200 RAk), (oa zw cI 200 WTk), (oa zx cI 400 EX), (oa zy cI 400 EY), (oa zg cI 400 GR), (oc7 sh (.ref fa) (nI ft)), (oq fa cF 200 FA), (oc1 fe2 (rk g5) (wd g5) (tw g5) (pa g5) (pb g5) (.ref lo2) (.ref lk2) fm2), (oc4 lk2 (kd g5) (st g5) (.ref r2) (gb g5) (it g5) we2), (oc6 r2 (.ref rx2) (.ref ry2) (nI (nN (mn g5))) rg2), (oa rx2 cI cap2 U2), (oa ry2 cI cap2 V2)] ++ va_pl T_1 f) := hD
          refine lv_astore (lv' := [(4, .ref r2), (3, .ref fe2), (2, .int (nI g5)), (0, .ref ro), (1, .ref sh)]) hx hb dX6_gather_26 hl (by decide) rfl (fun ls hl => ?_)
          refine lv_aload_n hx hb dX6_gather_28 rfl (lv_at hl 1 rfl) ?_
          refine lv_ifnull hx hb dX6_gather_29 ?_
          refine lv_aload hx hb dX6_gather_32 (lv_at hl 0 rfl) ?_
          refine lv_ifnull hx hb dX6_gather_34 ?_
          refine lv_aload_n hx hb dX6_gather_37 rfl (lv_at hl 1 rfl) ?_
          refine va_get (D := (dC, dI)) (ci := 1) (v := .ref lk2) (C := RX2) (T := TX2) (N := 8) hx hb hts inX2 hown hK hP 8 rfl rfl 6 (by decide) (hts _ mw_432) (fun _ h9 => h9) rfl dX6_gather_38 ?_
          refine va_get (D := (dC, dI)) (ci := 4) (v := .int (kd g5)) (C := RX5) (T := TX5) (N := 6) hx hb hts inX5 hown hK hP 9 rfl rfl 0 (by decide) (hts _ mw_380) (fun _ h9 => h9) rfl dX6_gather_41 ?_
          refine lv_iconst (v := 3) hx hb dX6_gather_44 (by decide) ?_
          refine lv_icmp_ne (tgt := 65) hx hb dX6_gather_45 (by decide) (fun c_4 => ?_) (fun c_4 => ?_)
          · have c_4 : ¬ (kd g5).toInt = 3 := zc_ne rfl (by decide) c_4
            have hP := pl_back (cs := [(oc1 fe2 (rk g5) (wd g5) (tw g5) (pa g5) (pb g5) (.ref lo2) (.ref lk2) fm2), (oc4 lk2 (kd g5) (st g5) (.ref r2) (gb g5) (it g5) we2), (oc6 r2 (.ref rx2) (.ref ry2) (nI (nN (mn g5))) rg2), (oa rx2 cI cap2 U2), (oa ry2 cI cap2 V2)]) (L := L) (f := f) (X := [(oc5 ro (.ref za) (.ref zw) (.ref zx) (.ref zy) (.ref zg) (nI n5)), (oq za cF 200 RAk), (oa zw cI 200 WTk), (oa zx cI 400 EX), (oa zy cI 400 EY), (oa zg cI 400 GR), (oc7 sh (.ref fa) (nI ft)), (oq fa cF 200 FA)]) (by rw [hT_1]; exact (show va_P (dC, dI) classes (([(oc5 ro (.ref za) (.ref zw) (.ref zx) (.ref zy) (.ref zg) (nI n5)), (oq za cF 200 RAk), (oa zw cI 200 WTk), (oa zx cI 400 EX), (oa zy cI 400 EY), (oa zg cI 400 GR), (oc7 sh (.ref fa) (nI ft)), (oq fa cF 200 FA)] ++ [(oc1 fe2 (rk g5) (wd g5) (tw g5) (pa g5) (pb g5) (.ref lo2) (.ref lk2) fm2), (oc4 lk2 (kd g5) (st g5) (.ref r2) (gb g5) (it g5) we2), (oc6 r2 (.ref rx2) (.ref ry2) (nI (nN (mn g5))) rg2), (oa rx2 cI cap2 U2), (oa ry2 cI cap2 V2)]) ++ va_pl T_1 f) H from hP)) hc9_1
            have hD : va_D A ([(oc5 ro (.ref za) (.ref zw) (.ref zx) (.ref zy) (.ref zg) (nI n5)), (oq za cF 200 RAk), (oa zw cI 200 WTk), (oa zx cI 400 EX), (oa zy cI 400 EY), (oa zg cI 400 GR), (oc7 sh (.ref fa) (nI ft)), (oq fa cF 200 FA)] ++ va_pl L f) := vaD_ae hD0_1 rfl
            have hnR : ¬ (rdF ft st tn kd) g5 := fun h => by have h9 := h.2; omega
            have hS7 := rdS_skip hSr hnR
            refine lv_iinc (v := nI (g5 + 1)) (lv' := [(2, .int (nI (g5 + 1))), (4, .ref r2), (3, .ref fe2), (0, .ref ro), (1, .ref sh)]) hx hb dX6_gather_65 hl (k := 2) rfl (nI_add g5 1) (by decide) rfl (fun ls hl => ?_)
            refine lv_goto (tgt := 7) hx hb dX6_gather_68 (by decide) ?_
            exact ih_7 (g5 + 1) n5 rd5 RAk WTk H locs ls (by omega) (by omega) (hS7) (by first | exact hA7 | exact hAr) hP hD hS (lv_sub hl [0, 3, 4] rfl)
          · have c_4 : (kd g5).toInt = 3 := zc_eq rfl (by decide) c_4
            refine lv_aload_n hx hb dX6_gather_48 rfl (lv_at hl 3 rfl) ?_
            refine lv_aload_n hx hb dX6_gather_49 rfl (lv_at hl 1 rfl) ?_
            refine lv_aload_n hx hb dX6_gather_50 rfl (lv_at hl 1 rfl) ?_
            refine va_get (D := (dC, dI)) (ci := 1) (v := .int (rk g5)) (C := RX2) (T := TX2) (N := 8) hx hb hts inX2 hown hK hP 8 rfl rfl 0 (by decide) (hts _ mw_416) (fun _ h9 => h9) rfl dX6_gather_51 ?_
            refine lv_iconst (v := 1) hx hb dX6_gather_54 (by decide) ?_
            refine lv_iadd hx hb dX6_gather_55 ?_
            refine lv_aload hx hb dX6_gather_56 (lv_at hl 0 rfl) ?_
            have hPc := hP.sub (ws' := [(oc6 r2 (.ref rx2) (.ref ry2) (nI (nN (mn g5))) rg2), (oa rx2 cI cap2 U2), (oa ry2 cI cap2 V2)]) [10, 11, 12] rfl
            have hDc := hD.sub (ws' := [(oc6 r2 (.ref rx2) (.ref ry2) (nI (nN (mn g5))) rg2), (oa rx2 cI cap2 U2), (oa ry2 cI cap2 V2)]) [10, 11, 12] (by decide) rfl
            have hFc := va_free (wc := [(oc6 r2 (.ref rx2) (.ref ry2) (nI (nN (mn g5))) rg2), (oa rx2 cI cap2 U2), (oa ry2 cI cap2 V2)]) hD hS hA [10, 11, 12] rfl
            refine zcall (st1 := [.int (nI (ln2 U2 V2 ((nN (mn g5)) - 1))), .int ((rk g5) + 1), .ref fe2, .ref ro]) (va_runV (As := []) (rest := [.int ((rk g5) + 1), .ref fe2, .ref ro]) ⟨hx, hb, hml, hown, hts⟩ (k_Row_length l dC dI cI cZ cF H.size r2 rx2 ry2 (nN (mn g5)) cap2 U2 V2 rg2 (by omega) (by omega) (hq2) (by omega)) (cwV 0 hts (zz_gV mw_1002 mw_1003 mw_1004 mw_102 mc_yX7_length) rfl rfl rfl (by decide +kernel) ⟨Nat.le_of_ble_eq_true rfl, Nat.le_of_ble_eq_true rfl⟩) (zPV2 (q0 := 0) (ci := 6) hPc hDc hK hXN rfl rfl) rfl rfl hl.1 rfl (lv_room (Nat.le_of_ble_eq_true rfl)) dX6_gather_58 ⟨Nat.le_of_ble_eq_true rfl, Nat.le_of_ble_eq_true rfl⟩) hS hFc hFc rfl (fun t H1 locs ht hB hk1 hS => ?_)
            obtain ⟨hP1, hD1⟩ := hB
            rw [ht] at hP1
            obtain ⟨hP, hD⟩ := va_joinQ (wr := [(oc5 ro (.ref za) (.ref zw) (.ref zx) (.ref zy) (.ref zg) (nI n5)), (oq za cF 200 RAk), (oa zw cI 200 WTk), (oa zx cI 400 EX), (oa zy cI 400 EY), (oa zg cI 400 GR), (oc7 sh (.ref fa) (nI ft)), (oq fa cF 200 FA), (oc1 fe2 (rk g5) (wd g5) (tw g5) (pa g5) (pb g5) (.ref lo2) (.ref lk2) fm2), (oc4 lk2 (kd g5) (st g5) (.ref r2) (gb g5) (it g5) we2)]) (w1 := [(oc6 r2 (.ref rx2) (.ref ry2) (nI (nN (mn g5))) rg2), (oa rx2 cI cap2 U2), (oa ry2 cI cap2 V2)]) hP hD [10, 11, 12] [0, 1, 2, 3, 4, 5, 6, 7, 8, 9] rfl rfl (by decide) (by decide) hk1 hFc hP1 hD1
            clear hk1 hPc hDc hFc hP1 hD1 ht
            generalize H1 = H at hP hS ⊢
            have hP : va_P (dC, dI) classes ([(oc5 ro (.ref za) (.ref zw) (.ref zx) (.ref zy) (.ref zg) (nI n5)), (oq za cF 200 RAk), (oa zw cI 200 WTk), (oa zx cI 400 EX), (oa zy cI 400 EY), (oa zg cI 400 GR), (oc7 sh (.ref fa) (nI ft)), (oq fa cF 200 FA), (oc1 fe2 (rk g5) (wd g5) (tw g5) (pa g5) (pb g5) (.ref lo2) (.ref lk2) fm2), (oc4 lk2 (kd g5) (st g5) (.ref r2) (gb g5) (it g5) we2), (oc6 r2 (.ref rx2) (.ref ry2) (nI (nN (mn g5))) rg2), (oa rx2 cI cap2 U2), (oa ry2 cI cap2 V2)] ++ va_pl T_1 f) H := hP
            have hD : va_D A ([(oc5 ro (.ref za) (.ref zw) (.ref zx) (.ref zy) (.ref zg) (nI n5)), (oq za cF 200 RAk), (oa zw cI 200 WTk), (oa zx cI 400 EX), (oa zy cI 400 EY), (oa zg cI 400 GR), (oc7 sh (.ref fa) (nI ft)), (oq fa cF 200 FA), (oc1 fe2 (rk g5) (wd g5) (tw g5) (pa g5) (pb g5) (.ref lo2) (.ref lk2) fm2), (oc4 lk2 (kd g5) (st g5) (.ref r2) (gb g5) (it g5) we2), (oc6 r2 (.ref rx2) (.ref ry2) (nI (nN (mn g5))) rg2), (oa rx2 cI cap2 U2), (oa ry2 cI cap2 V2)] ++ va_pl T_1 f) := hD
            refine lv_imul hx hb dX6_gather_61 ?_
            refine zz_i (v := nI (chW rk mn cx cy g5)) (by rw [ln2_cg hrr2.2.2.2.2 _ (by omega)]; exact chW_i hrk2) ?_
            have hP := pl_back (cs := [(oc1 fe2 (rk g5) (wd g5) (tw g5) (pa g5) (pb g5) (.ref lo2) (.ref lk2) fm2), (oc4 lk2 (kd g5) (st g5) (.ref r2) (gb g5) (it g5) we2), (oc6 r2 (.ref rx2) (.ref ry2) (nI (nN (mn g5))) rg2), (oa rx2 cI cap2 U2), (oa ry2 cI cap2 V2)]) (L := L) (f := f) (X := [(oc5 ro (.ref za) (.ref zw) (.ref zx) (.ref zy) (.ref zg) (nI n5)), (oq za cF 200 RAk), (oa zw cI 200 WTk), (oa zx cI 400 EX), (oa zy cI 400 EY), (oa zg cI 400 GR), (oc7 sh (.ref fa) (nI ft)), (oq fa cF 200 FA)]) (by rw [hT_1]; exact (show va_P (dC, dI) classes (([(oc5 ro (.ref za) (.ref zw) (.ref zx) (.ref zy) (.ref zg) (nI n5)), (oq za cF 200 RAk), (oa zw cI 200 WTk), (oa zx cI 400 EX), (oa zy cI 400 EY), (oa zg cI 400 GR), (oc7 sh (.ref fa) (nI ft)), (oq fa cF 200 FA)] ++ [(oc1 fe2 (rk g5) (wd g5) (tw g5) (pa g5) (pb g5) (.ref lo2) (.ref lk2) fm2), (oc4 lk2 (kd g5) (st g5) (.ref r2) (gb g5) (it g5) we2), (oc6 r2 (.ref rx2) (.ref ry2) (nI (nN (mn g5))) rg2), (oa rx2 cI cap2 U2), (oa ry2 cI cap2 V2)]) ++ va_pl T_1 f) H from hP)) hc9_1
            have hD : va_D A ([(oc5 ro (.ref za) (.ref zw) (.ref zx) (.ref zy) (.ref zg) (nI n5)), (oq za cF 200 RAk), (oa zw cI 200 WTk), (oa zx cI 400 EX), (oa zy cI 400 EY), (oa zg cI 400 GR), (oc7 sh (.ref fa) (nI ft)), (oq fa cF 200 FA)] ++ va_pl L f) := vaD_ae hD0_1 rfl
            have hR2 : (rdF ft st tn kd) g5 := ⟨hlv2, by omega⟩
            have hPc := hP.part (cx := [(oc5 ro (.ref za) (.ref zw) (.ref zx) (.ref zy) (.ref zg) (nI n5)), (oq za cF 200 RAk), (oa zw cI 200 WTk)]) [0, 1, 2] rfl
            have hDc := hD.part (cx := [(oc5 ro (.ref za) (.ref zw) (.ref zx) (.ref zy) (.ref zg) (nI n5)), (oq za cF 200 RAk), (oa zw cI 200 WTk)]) [0, 1, 2] (by decide) rfl
            have hFc := va_freeP (cx := [(oc5 ro (.ref za) (.ref zw) (.ref zx) (.ref zy) (.ref zg) (nI n5)), (oq za cF 200 RAk), (oa zw cI 200 WTk)]) hD hS hA [0, 1, 2] rfl
            refine zcall (st1 := []) (va_runV (As := [.ref fe2, .int (nI (chW rk mn cx cy g5))]) (rest := []) ⟨hx, hb, hml, hown, hts⟩ (k_Roads_insert l dC dI cI cZ cF H.size ro za zw zx zy zg n5 fe2 (chW rk mn cx cy g5) RAk WTk (fun k => chW rk mn cx cy (rd5 k)) L f (by omega) (fun k hk => ⟨_, (hAr k hk).1, feC_F hF (by have := (hSr.1 k hk).2; omega)⟩) (⟨_, _, _, _, _, _, _, _, hfe2⟩) (fun k hk => (hAr k hk).2) (⟨fun k hk => by have h9 := (hSr.1 k hk).1.1; have := chW_b (hrk _ h9) (hwf _ h9); omega, by omega⟩) (rdS_so hSr)) (cwV 2 hts (zz_gV mw_1006 mw_1008 mw_29 mw_105 mc_yX6_insert) rfl rfl rfl (by decide +kernel) ⟨Nat.le_of_ble_eq_true rfl, Nat.le_of_ble_eq_true rfl⟩) (zPV2 (q0 := 0) (ci := 5) hPc hDc hK hXN rfl rfl) rfl rfl hl.1 rfl (lv_room (Nat.le_of_ble_eq_true rfl)) dX6_gather_62 ⟨Nat.le_of_ble_eq_true rfl, Nat.le_of_ble_eq_true rfl⟩) hS hFc hFc rfl (fun t H1 locs ht hB hk1 hS => ?_)
            obtain ⟨p7, RA7, WT7, h71, h72, h73, h74, hP1, hD1⟩ := hB
            rw [ht] at hP1
            obtain ⟨hP, hD⟩ := va_joinP (wr := [(oa zx cI 400 EX), (oa zy cI 400 EY), (oa zg cI 400 GR), (oc7 sh (.ref fa) (nI ft)), (oq fa cF 200 FA)]) (rx := [(oc5 ro (.ref za) (.ref zw) (.ref zx) (.ref zy) (.ref zg) (nI (n5 + 1))), (oq za cF 200 RA7), (oa zw cI 200 WT7)]) hP hD [0, 1, 2] [3, 4, 5, 6, 7] rfl rfl (by decide) (by decide) hk1 hFc hP1 hD1
            clear hk1 hPc hDc hFc hP1 hD1 ht
            generalize H1 = H at hP hS ⊢
            have hP := hP.part (cx := [(oc5 ro (.ref za) (.ref zw) (.ref zx) (.ref zy) (.ref zg) (nI (n5 + 1))), (oq za cF 200 RA7), (oa zw cI 200 WT7), (oa zx cI 400 EX), (oa zy cI 400 EY), (oa zg cI 400 GR), (oc7 sh (.ref fa) (nI ft)), (oq fa cF 200 FA)]) [5, 6, 7, 0, 1, 2, 3, 4] rfl
            have hD := hD.part (cx := [(oc5 ro (.ref za) (.ref zw) (.ref zx) (.ref zy) (.ref zg) (nI (n5 + 1))), (oq za cF 200 RA7), (oa zw cI 200 WT7), (oa zx cI 400 EX), (oa zy cI 400 EY), (oa zg cI 400 GR), (oc7 sh (.ref fa) (nI ft)), (oq fa cF 200 FA)]) [5, 6, 7, 0, 1, 2, 3, 4] (by decide) rfl
            have hP : va_P (dC, dI) classes ([(oc5 ro (.ref za) (.ref zw) (.ref zx) (.ref zy) (.ref zg) (nI (n5 + 1))), (oq za cF 200 RA7), (oa zw cI 200 WT7), (oa zx cI 400 EX), (oa zy cI 400 EY), (oa zg cI 400 GR), (oc7 sh (.ref fa) (nI ft)), (oq fa cF 200 FA)] ++ va_pl L f) H := hP
            have hD : va_D A ([(oc5 ro (.ref za) (.ref zw) (.ref zx) (.ref zy) (.ref zg) (nI (n5 + 1))), (oq za cF 200 RA7), (oa zw cI 200 WT7), (oa zx cI 400 EX), (oa zy cI 400 EY), (oa zg cI 400 GR), (oc7 sh (.ref fa) (nI ft)), (oq fa cF 200 FA)] ++ va_pl L f) := hD
            have hS7 := rdS_ins hSr hR2 h71 (fun k hk => (h72 k hk).2.2) (fun k h1 h2 => (h74 k h1 h2).2.2)
            have hA7 : ∀ k, k < n5 + 1 → RA7 k = some (fe ((insN rd5 p7 g5) k)) ∧ WT7 k = nI (chW rk mn cx cy ((insN rd5 p7 g5) k)) := fun k hk => by rcases insN_c rd5 p7 g5 k with ⟨a9, e9⟩ | ⟨a9, e9⟩ | ⟨a9, e9⟩; (rw [e9, (h72 k a9).1, (h72 k a9).2.1]; exact hAr k (by omega)); (rw [e9, a9, h73.1, h73.2, hfe9]; exact ⟨rfl, rfl⟩); (obtain ⟨j9, rfl⟩ : ∃ j, k = j + 1 := ⟨k - 1, by omega⟩; rw [e9, Nat.add_sub_cancel, (h74 j9 (by omega) (by omega)).1, (h74 j9 (by omega) (by omega)).2.1]; exact hAr j9 (by omega))
            refine lv_iinc (v := nI (g5 + 1)) (lv' := [(2, .int (nI (g5 + 1))), (4, .ref r2), (3, .ref fe2), (0, .ref ro), (1, .ref sh)]) hx hb dX6_gather_65 hl (k := 2) rfl (nI_add g5 1) (by decide) rfl (fun ls hl => ?_)
            refine lv_goto (tgt := 7) hx hb dX6_gather_68 (by decide) ?_
            exact ih_7 (g5 + 1) (n5 + 1) (insN rd5 p7 g5) RA7 WT7 H locs ls (by omega) (by omega) (hS7) (by first | exact hA7 | exact hAr) hP hD hS (lv_sub hl [0, 3, 4] rfl)
        · skip
          have hcap2 := hrr2.1
          have hcap3 := hrr2.2.1
          have hnR : ¬ (rdF ft st tn kd) g5 := fun h => hA2 h.1.2.1
          have hc9_1 : inPl L f [(oc1 fe2 (rk g5) (wd g5) (tw g5) (pa g5) (pb g5) (.ref lo2) (.ref lk2) fm2), (oc4 lk2 (kd g5) (st g5) (.ref r2) (gb g5) (it g5) we2), (oc6 r2 (.ref rx2) (.ref ry2) (nI (nN (mn g5))) rg2), (oa rx2 cI cap2 U2), (oa ry2 cI cap2 V2)] := ⟨hfe2, hlk2, hr2, hrx2, hry2, trivial⟩
          have hD0_1 := hD
          obtain ⟨hP, hD⟩ := pl_out hP hD [(oc1 fe2 (rk g5) (wd g5) (tw g5) (pa g5) (pb g5) (.ref lo2) (.ref lk2) fm2), (oc4 lk2 (kd g5) (st g5) (.ref r2) (gb g5) (it g5) we2), (oc6 r2 (.ref rx2) (.ref ry2) (nI (nN (mn g5))) rg2), (oa rx2 cI cap2 U2), (oa ry2 cI cap2 V2)] hc9_1 (pwR hfe2.2 hlk2.2 hr2.2 hrx2.2 hry2.2 hne2)
          generalize hT_1 : outPl L [(oc1 fe2 (rk g5) (wd g5) (tw g5) (pa g5) (pb g5) (.ref lo2) (.ref lk2) fm2), (oc4 lk2 (kd g5) (st g5) (.ref r2) (gb g5) (it g5) we2), (oc6 r2 (.ref rx2) (.ref ry2) (nI (nN (mn g5))) rg2), (oa rx2 cI cap2 U2), (oa ry2 cI cap2 V2)] = T_1 at hP hD
          have hP : va_P (dC, dI) classes ([(oc5 ro (.ref za) (.ref zw) (.ref zx) (.ref zy) (.ref zg) (nI n5)), (oq za cF 200 RAk), (oa zw cI 200 WTk), (oa zx cI 400 EX), (oa zy cI 400 EY), (oa zg cI 400 GR), (oc7 sh (.ref fa) (nI ft)), (oq fa cF 200 FA), (oc1 fe2 (rk g5) (wd g5) (tw g5) (pa g5) (pb g5) (.ref lo2) (.ref lk2) fm2), (oc4 lk2 (kd g5) (st g5) (.ref r2) (gb g5) (it g5) we2), (oc6 r2 (.ref rx2) (.ref ry2) (nI (nN (mn g5))) rg2), (oa rx2 cI cap2 U2), (oa ry2 cI cap2 V2)] ++ va_pl T_1 f) H := hP
          have hD : va_D A ([(oc5 ro (.ref za) (.ref zw) (.ref zx) (.ref zy) (.ref zg) (nI n5)), (oq za cF 200 RAk), (oa zw cI 200 WTk), (oa zx cI 400 EX), (oa zy cI 400 EY), (oa zg cI 400 GR), (oc7 sh (.ref fa) (nI ft)), (oq fa cF 200 FA), (oc1 fe2 (rk g5) (wd g5) (tw g5) (pa g5) (pb g5) (.ref lo2) (.ref lk2) fm2), (oc4 lk2 (kd g5) (st g5) (.ref r2) (gb g5) (it g5) we2), (oc6 r2 (.ref rx2) (.ref ry2) (nI (nN (mn g5))) rg2), (oa rx2 cI cap2 U2), (oa ry2 cI cap2 V2)] ++ va_pl T_1 f) := hD
          refine lv_aload_n hx hb dX6_gather_15 rfl (lv_at hl 2 rfl) ?_
          refine lv_iload_n hx hb dX6_gather_16 rfl (lv_at hl 0 rfl) ?_
          have hPc := hP.sub (ws' := [(oc7 sh (.ref fa) (nI ft)), (oq fa cF 200 FA)]) [6, 7] rfl
          have hDc := hD.sub (ws' := [(oc7 sh (.ref fa) (nI ft)), (oq fa cF 200 FA)]) [6, 7] (by decide) rfl
          have hFc := va_free (wc := [(oc7 sh (.ref fa) (nI ft)), (oq fa cF 200 FA)]) hD hS hA [6, 7] rfl
          refine zcall (st1 := [.ref fe2]) (va_runV (As := [.int (nI g5)]) (rest := []) ⟨hx, hb, hml, hown, hts⟩ (k_Sheet_find l dC dI cI cZ cF H.size sh fa ft FA g5 fe2 (by omega) (by omega) (hFA2)) (cwV 1 hts (zz_gV mw_1000 mw_499 mw_500 mw_100 mc_yX8_find) rfl rfl rfl (by decide +kernel) ⟨Nat.le_of_ble_eq_true rfl, Nat.le_of_ble_eq_true rfl⟩) (zPV2 (q0 := 0) (ci := 7) hPc hDc hK hXN rfl rfl) rfl rfl hl.1 rfl (lv_room (Nat.le_of_ble_eq_true rfl)) dX6_gather_17 ⟨Nat.le_of_ble_eq_true rfl, Nat.le_of_ble_eq_true rfl⟩) hS hFc hFc rfl (fun t H1 locs ht hB hk1 hS => ?_)
          obtain ⟨hP1, hD1⟩ := hB
          rw [ht] at hP1
          obtain ⟨hP, hD⟩ := va_joinQ (wr := [(oc5 ro (.ref za) (.ref zw) (.ref zx) (.ref zy) (.ref zg) (nI n5)), (oq za cF 200 RAk), (oa zw cI 200 WTk), (oa zx cI 400 EX), (oa zy cI 400 EY), (oa zg cI 400 GR), (oc1 fe2 (rk g5) (wd g5) (tw g5) (pa g5) (pb g5) (.ref lo2) (.ref lk2) fm2), (oc4 lk2 (kd g5) (st g5) (.ref r2) (gb g5) (it g5) we2), (oc6 r2 (.ref rx2) (.ref ry2) (nI (nN (mn g5))) rg2), (oa rx2 cI cap2 U2), (oa ry2 cI cap2 V2)]) (w1 := [(oc7 sh (.ref fa) (nI ft)), (oq fa cF 200 FA)]) hP hD [6, 7] [0, 1, 2, 3, 4, 5, 8, 9, 10, 11, 12] rfl rfl (by decide) (by decide) hk1 hFc hP1 hD1
          clear hk1 hPc hDc hFc hP1 hD1 ht
          generalize H1 = H at hP hS ⊢
          have hP := hP.part (cx := [(oc5 ro (.ref za) (.ref zw) (.ref zx) (.ref zy) (.ref zg) (nI n5)), (oq za cF 200 RAk), (oa zw cI 200 WTk), (oa zx cI 400 EX), (oa zy cI 400 EY), (oa zg cI 400 GR), (oc7 sh (.ref fa) (nI ft)), (oq fa cF 200 FA), (oc1 fe2 (rk g5) (wd g5) (tw g5) (pa g5) (pb g5) (.ref lo2) (.ref lk2) fm2), (oc4 lk2 (kd g5) (st g5) (.ref r2) (gb g5) (it g5) we2), (oc6 r2 (.ref rx2) (.ref ry2) (nI (nN (mn g5))) rg2), (oa rx2 cI cap2 U2), (oa ry2 cI cap2 V2)]) [0, 1, 2, 3, 4, 5, 11, 12, 6, 7, 8, 9, 10] rfl
          have hD := hD.part (cx := [(oc5 ro (.ref za) (.ref zw) (.ref zx) (.ref zy) (.ref zg) (nI n5)), (oq za cF 200 RAk), (oa zw cI 200 WTk), (oa zx cI 400 EX), (oa zy cI 400 EY), (oa zg cI 400 GR), (oc7 sh (.ref fa) (nI ft)), (oq fa cF 200 FA), (oc1 fe2 (rk g5) (wd g5) (tw g5) (pa g5) (pb g5) (.ref lo2) (.ref lk2) fm2), (oc4 lk2 (kd g5) (st g5) (.ref r2) (gb g5) (it g5) we2), (oc6 r2 (.ref rx2) (.ref ry2) (nI (nN (mn g5))) rg2), (oa rx2 cI cap2 U2), (oa ry2 cI cap2 V2)]) [0, 1, 2, 3, 4, 5, 11, 12, 6, 7, 8, 9, 10] (by decide) rfl
          have hP : va_P (dC, dI) classes ([(oc5 ro (.ref za) (.ref zw) (.ref zx) (.ref zy) (.ref zg) (nI n5)), (oq za cF 200 RAk), (oa zw cI 200 WTk), (oa zx cI 400 EX), (oa zy cI 400 EY), (oa zg cI 400 GR), (oc7 sh (.ref fa) (nI ft)), (oq fa cF 200 FA), (oc1 fe2 (rk g5) (wd g5) (tw g5) (pa g5) (pb g5) (.ref lo2) (.ref lk2) fm2), (oc4 lk2 (kd g5) (st g5) (.ref r2) (gb g5) (it g5) we2), (oc6 r2 (.ref rx2) (.ref ry2) (nI (nN (mn g5))) rg2), (oa rx2 cI cap2 U2), (oa ry2 cI cap2 V2)] ++ va_pl T_1 f) H := hP
          have hD : va_D A ([(oc5 ro (.ref za) (.ref zw) (.ref zx) (.ref zy) (.ref zg) (nI n5)), (oq za cF 200 RAk), (oa zw cI 200 WTk), (oa zx cI 400 EX), (oa zy cI 400 EY), (oa zg cI 400 GR), (oc7 sh (.ref fa) (nI ft)), (oq fa cF 200 FA), (oc1 fe2 (rk g5) (wd g5) (tw g5) (pa g5) (pb g5) (.ref lo2) (.ref lk2) fm2), (oc4 lk2 (kd g5) (st g5) (.ref r2) (gb g5) (it g5) we2), (oc6 r2 (.ref rx2) (.ref ry2) (nI (nN (mn g5))) rg2), (oa rx2 cI cap2 U2), (oa ry2 cI cap2 V2)] ++ va_pl T_1 f) := hD
          refine lv_astore_n (lv' := [(3, .ref fe2), (2, .int (nI g5)), (0, .ref ro), (1, .ref sh)]) hx hb dX6_gather_20 rfl hl (by decide) rfl (fun ls hl => ?_)
          refine lv_aload_n hx hb dX6_gather_21 rfl (lv_at hl 3 rfl) ?_
          refine lv_iload_n hx hb dX6_gather_22 rfl (lv_at hl 1 rfl) ?_
          have hPc := hP.sub (ws' := [(oc7 sh (.ref fa) (nI ft)), (oq fa cF 200 FA), (oc1 fe2 (rk g5) (wd g5) (tw g5) (pa g5) (pb g5) (.ref lo2) (.ref lk2) fm2), (oc4 lk2 (kd g5) (st g5) (.ref r2) (gb g5) (it g5) we2)]) [6, 7, 8, 9] rfl
          have hDc := hD.sub (ws' := [(oc7 sh (.ref fa) (nI ft)), (oq fa cF 200 FA), (oc1 fe2 (rk g5) (wd g5) (tw g5) (pa g5) (pb g5) (.ref lo2) (.ref lk2) fm2), (oc4 lk2 (kd g5) (st g5) (.ref r2) (gb g5) (it g5) we2)]) [6, 7, 8, 9] (by decide) rfl
          have hFc := va_free (wc := [(oc7 sh (.ref fa) (nI ft)), (oq fa cF 200 FA), (oc1 fe2 (rk g5) (wd g5) (tw g5) (pa g5) (pb g5) (.ref lo2) (.ref lk2) fm2), (oc4 lk2 (kd g5) (st g5) (.ref r2) (gb g5) (it g5) we2)]) hD hS hA [6, 7, 8, 9] rfl
          refine zcall (st1 := [.null]) (va_runV (As := [.int (nI g5)]) (rest := []) ⟨hx, hb, hml, hown, hts⟩ (k_Sheet_rowThere_sv l dC dI cI cZ cF H.size sh fa ft FA g5 fe2 lo2 (rk g5) (wd g5) (tw g5) (pa g5) (pb g5) lk2 (kd g5) (st g5) (gb g5) (it g5) we2 fm2 (.ref r2) (by omega) (by omega) (hFA2) (by first | exact hA2 | omega)) (cwV 1 hts (zz_gV mw_1001 mw_613 mw_614 mw_100 mc_yX8_rowThere) rfl rfl rfl (by decide +kernel) ⟨Nat.le_of_ble_eq_true rfl, Nat.le_of_ble_eq_true rfl⟩) (zPV2 (q0 := 0) (ci := 7) hPc hDc hK hXN rfl rfl) rfl rfl hl.1 rfl (lv_room (Nat.le_of_ble_eq_true rfl)) dX6_gather_23 ⟨Nat.le_of_ble_eq_true rfl, Nat.le_of_ble_eq_true rfl⟩) hS hFc hFc rfl (fun t H1 locs ht hB hk1 hS => ?_)
          obtain ⟨hP1, hD1⟩ := hB
          rw [ht] at hP1
          obtain ⟨hP, hD⟩ := va_joinQ (wr := [(oc5 ro (.ref za) (.ref zw) (.ref zx) (.ref zy) (.ref zg) (nI n5)), (oq za cF 200 RAk), (oa zw cI 200 WTk), (oa zx cI 400 EX), (oa zy cI 400 EY), (oa zg cI 400 GR), (oc6 r2 (.ref rx2) (.ref ry2) (nI (nN (mn g5))) rg2), (oa rx2 cI cap2 U2), (oa ry2 cI cap2 V2)]) (w1 := [(oc7 sh (.ref fa) (nI ft)), (oq fa cF 200 FA), (oc1 fe2 (rk g5) (wd g5) (tw g5) (pa g5) (pb g5) (.ref lo2) (.ref lk2) fm2), (oc4 lk2 (kd g5) (st g5) (.ref r2) (gb g5) (it g5) we2)]) hP hD [6, 7, 8, 9] [0, 1, 2, 3, 4, 5, 10, 11, 12] rfl rfl (by decide) (by decide) hk1 hFc hP1 hD1
          clear hk1 hPc hDc hFc hP1 hD1 ht
          generalize H1 = H at hP hS ⊢
          have hP := hP.part (cx := [(oc5 ro (.ref za) (.ref zw) (.ref zx) (.ref zy) (.ref zg) (nI n5)), (oq za cF 200 RAk), (oa zw cI 200 WTk), (oa zx cI 400 EX), (oa zy cI 400 EY), (oa zg cI 400 GR), (oc7 sh (.ref fa) (nI ft)), (oq fa cF 200 FA), (oc1 fe2 (rk g5) (wd g5) (tw g5) (pa g5) (pb g5) (.ref lo2) (.ref lk2) fm2), (oc4 lk2 (kd g5) (st g5) (.ref r2) (gb g5) (it g5) we2), (oc6 r2 (.ref rx2) (.ref ry2) (nI (nN (mn g5))) rg2), (oa rx2 cI cap2 U2), (oa ry2 cI cap2 V2)]) [0, 1, 2, 3, 4, 5, 9, 10, 11, 12, 6, 7, 8] rfl
          have hD := hD.part (cx := [(oc5 ro (.ref za) (.ref zw) (.ref zx) (.ref zy) (.ref zg) (nI n5)), (oq za cF 200 RAk), (oa zw cI 200 WTk), (oa zx cI 400 EX), (oa zy cI 400 EY), (oa zg cI 400 GR), (oc7 sh (.ref fa) (nI ft)), (oq fa cF 200 FA), (oc1 fe2 (rk g5) (wd g5) (tw g5) (pa g5) (pb g5) (.ref lo2) (.ref lk2) fm2), (oc4 lk2 (kd g5) (st g5) (.ref r2) (gb g5) (it g5) we2), (oc6 r2 (.ref rx2) (.ref ry2) (nI (nN (mn g5))) rg2), (oa rx2 cI cap2 U2), (oa ry2 cI cap2 V2)]) [0, 1, 2, 3, 4, 5, 9, 10, 11, 12, 6, 7, 8] (by decide) rfl
          have hP : va_P (dC, dI) classes ([(oc5 ro (.ref za) (.ref zw) (.ref zx) (.ref zy) (.ref zg) (nI n5)), (oq za cF 200 RAk), (oa zw cI 200 WTk), (oa zx cI 400 EX), (oa zy cI 400 EY), (oa zg cI 400 GR), (oc7 sh (.ref fa) (nI ft)), (oq fa cF 200 FA), (oc1 fe2 (rk g5) (wd g5) (tw g5) (pa g5) (pb g5) (.ref lo2) (.ref lk2) fm2), (oc4 lk2 (kd g5) (st g5) (.ref r2) (gb g5) (it g5) we2), (oc6 r2 (.ref rx2) (.ref ry2) (nI (nN (mn g5))) rg2), (oa rx2 cI cap2 U2), (oa ry2 cI cap2 V2)] ++ va_pl T_1 f) H := hP
          have hD : va_D A ([(oc5 ro (.ref za) (.ref zw) (.ref zx) (.ref zy) (.ref zg) (nI n5)), (oq za cF 200 RAk), (oa zw cI 200 WTk), (oa zx cI 400 EX), (oa zy cI 400 EY), (oa zg cI 400 GR), (oc7 sh (.ref fa) (nI ft)), (oq fa cF 200 FA), (oc1 fe2 (rk g5) (wd g5) (tw g5) (pa g5) (pb g5) (.ref lo2) (.ref lk2) fm2), (oc4 lk2 (kd g5) (st g5) (.ref r2) (gb g5) (it g5) we2), (oc6 r2 (.ref rx2) (.ref ry2) (nI (nN (mn g5))) rg2), (oa rx2 cI cap2 U2), (oa ry2 cI cap2 V2)] ++ va_pl T_1 f) := hD
          refine lv_astoreN (lv' := [(4, .null), (3, .ref fe2), (2, .int (nI g5)), (0, .ref ro), (1, .ref sh)]) hx hb dX6_gather_26 hl (by decide) rfl (fun ls hl => ?_)
          refine lv_aload_n hx hb dX6_gather_28 rfl (lv_at hl 1 rfl) ?_
          refine lv_ifnull hx hb dX6_gather_29 ?_
          refine lv_aloadN hx hb dX6_gather_32 (lv_at hl 0 rfl) ?_
          refine lv_ifnullN (tgt := 65) hx hb dX6_gather_34 (by decide) ?_
          have hP := pl_back (cs := [(oc1 fe2 (rk g5) (wd g5) (tw g5) (pa g5) (pb g5) (.ref lo2) (.ref lk2) fm2), (oc4 lk2 (kd g5) (st g5) (.ref r2) (gb g5) (it g5) we2), (oc6 r2 (.ref rx2) (.ref ry2) (nI (nN (mn g5))) rg2), (oa rx2 cI cap2 U2), (oa ry2 cI cap2 V2)]) (L := L) (f := f) (X := [(oc5 ro (.ref za) (.ref zw) (.ref zx) (.ref zy) (.ref zg) (nI n5)), (oq za cF 200 RAk), (oa zw cI 200 WTk), (oa zx cI 400 EX), (oa zy cI 400 EY), (oa zg cI 400 GR), (oc7 sh (.ref fa) (nI ft)), (oq fa cF 200 FA)]) (by rw [hT_1]; exact (show va_P (dC, dI) classes (([(oc5 ro (.ref za) (.ref zw) (.ref zx) (.ref zy) (.ref zg) (nI n5)), (oq za cF 200 RAk), (oa zw cI 200 WTk), (oa zx cI 400 EX), (oa zy cI 400 EY), (oa zg cI 400 GR), (oc7 sh (.ref fa) (nI ft)), (oq fa cF 200 FA)] ++ [(oc1 fe2 (rk g5) (wd g5) (tw g5) (pa g5) (pb g5) (.ref lo2) (.ref lk2) fm2), (oc4 lk2 (kd g5) (st g5) (.ref r2) (gb g5) (it g5) we2), (oc6 r2 (.ref rx2) (.ref ry2) (nI (nN (mn g5))) rg2), (oa rx2 cI cap2 U2), (oa ry2 cI cap2 V2)]) ++ va_pl T_1 f) H from hP)) hc9_1
          have hD : va_D A ([(oc5 ro (.ref za) (.ref zw) (.ref zx) (.ref zy) (.ref zg) (nI n5)), (oq za cF 200 RAk), (oa zw cI 200 WTk), (oa zx cI 400 EX), (oa zy cI 400 EY), (oa zg cI 400 GR), (oc7 sh (.ref fa) (nI ft)), (oq fa cF 200 FA)] ++ va_pl L f) := vaD_ae hD0_1 rfl
          have hS7 := rdS_skip hSr hnR
          refine lv_iinc (v := nI (g5 + 1)) (lv' := [(2, .int (nI (g5 + 1))), (4, .null), (3, .ref fe2), (0, .ref ro), (1, .ref sh)]) hx hb dX6_gather_65 hl (k := 2) rfl (nI_add g5 1) (by decide) rfl (fun ls hl => ?_)
          refine lv_goto (tgt := 7) hx hb dX6_gather_68 (by decide) ?_
          exact ih_7 (g5 + 1) n5 rd5 RAk WTk H locs ls (by omega) (by omega) (hS7) (by first | exact hA7 | exact hAr) hP hD hS (lv_sub hl [0, 3, 4] rfl)
  exact hl_7 _ 0 0 (fun k => k) RA WT H locs ls (Nat.lt_succ_self _) (by omega) (rdS_0) (by intro k hk; omega) hP hD hS (lv_sub hl [0, 1, 2] rfl)
