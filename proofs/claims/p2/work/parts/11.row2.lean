set_option maxHeartbeats 4000000 in
set_option maxRecDepth 100000 in
theorem k_Row_where (l : Launch) (dC : Nat → ClassId) (dI : Nat → Nat → Nat) (cI cZ cF : ClassId) (sz : Nat) (r : Nat) (rx : Nat) (ry : Nat) (n : Nat) (cap : Nat) (X : Nat → Int32) (Y : Nat → Int32) (rg : Int32) (px : Int32) (py : Int32) (hn : n ≤ cap) (hcap : cap ≤ 1000) (hp : pls n X Y) (hpx : pl px) (hpy : pl py) : Met l yX7_where (.code yX7_where cX7_where 7 (some .int) :: ws0) ({ frames := 0, cells := 0, slots := 0, locals := 0 } : Room) (va_Pc [.ref r, .int px, .int py] (zPre (dC, dI) classes (zTy cI cZ cF) [(r, .inr (6, [.ref rx, .ref ry, .int (nI n), .int rg])), (rx, .inl (cI, cap, .inl X)), (ry, .inl (cI, cap, .inl Y))] sz zTrue)) (zQ (some (.int (whr n X Y px.toInt py.toInt))) (fun t => va_P (dC, dI) classes [(r, .inr (6, [.ref rx, .ref ry, .int (nI n), .int rg])), (rx, .inl (cI, cap, .inl X)), (ry, .inl (cI, cap, .inl Y))] t.heap ∧ va_D (va_A [(r, .inr (6, [.ref rx, .ref ry, .int (nI n), .int rg])), (rx, .inl (cI, cap, .inl X)), (ry, .inl (cI, cap, .inl Y))] sz) [(r, .inr (6, [.ref rx, .ref ry, .int (nI n), .int rg])), (rx, .inl (cI, cap, .inl X)), (ry, .inl (cI, cap, .inl Y))]) (va_A [(r, .inr (6, [.ref rx, .ref ry, .int (nI n), .int rg])), (rx, .inl (cI, cap, .inl X)), (ry, .inl (cI, cap, .inl Y))] sz)) 0 0 (va_A [(r, .inr (6, [.ref rx, .ref ry, .int (nI n), .int rg])), (rx, .inl (cI, cap, .inl X)), (ry, .inl (cI, cap, .inl Y))] sz) := by
  refine Met.ofW (cc := cX7_where) (maxL := 7) (ret := (some .int)) (by decide) rfl ?_
  intro p e s m args below meth c s₁ B hml hv
  obtain ⟨rfl, hsz, hP, hK, hD0, -⟩ := hv
  have hx := B.exec
  have hb := B.bytes
  have hr := B.returns
  have hts0 := atoms_spec (ws := .code yX7_where cX7_where 7 (some .int) :: ws0) B.pre
  have hts : ∀ w9 ∈ ws0, w9.before ([.ref r, .int px, .int py] : List Value).toArray s = true := fun w9 h => hts0 w9 (List.mem_cons_of_mem _ h)
  have hown : s.vm.findClass "ScaleShop$Row" = some m.cls := findClass_of_methodNamed B.named
  have hlocks := B.notSynchronized
  subst hsz
  have hD := hD0.self (sz := s.heap.size)
  clear hD0
  generalize hAe : va_A [(r, .inr (6, [.ref rx, .ref ry, .int (nI n), .int rg])), (rx, .inl (cI, cap, .inl X)), (ry, .inl (cI, cap, .inl Y))] s.heap.size = A at hD ⊢
  have hA : ∀ q : Nat, s.heap.size ≤ q → A q := fun q h => by rw [← hAe]; exact Or.inr h
  clear hAe
  have hS : va_S A s.heap s.heap [] := va_S.rf
  have hP : va_P (dC, dI) classes [(r, .inr (6, [.ref rx, .ref ry, .int (nI n), .int rg])), (rx, .inl (cI, cap, .inl X)), (ry, .inl (cI, cap, .inl Y))] s.heap := hP
  obtain ⟨Q9, hQ9⟩ : ∃ Q9 : State → Prop, Q9 = MQ below (zQ (some (.int (whr n X Y px.toInt py.toInt))) (fun t => va_P (dC, dI) classes [(r, .inr (6, [.ref rx, .ref ry, .int (nI n), .int rg])), (rx, .inl (cI, cap, .inl X)), (ry, .inl (cI, cap, .inl Y))] t.heap ∧ va_D A [(r, .inr (6, [.ref rx, .ref ry, .int (nI n), .int rg])), (rx, .inl (cI, cap, .inl X)), (ry, .inl (cI, cap, .inl Y))]) A) ([.ref r, .int px, .int py] : List Value).toArray s 0 0 A := ⟨_, rfl⟩
  rw [← hQ9]
  have hl := lv_entry ([.ref r, .int px, .int py]) (n := 7) (Nat.le_of_ble_eq_true rfl)
  rw [lg_entry_eq]
  generalize (lg_sl ([.ref r, .int px, .int py]) ++ List.replicate (7 - (lg_sl ([.ref r, .int px, .int py])).length) Slot.unset).toArray = ls at hl ⊢
  have hl : lv_has ls 7 [(0, .ref r), (1, .int px), (2, .int py)] := hl
  refine lv_iconst (v := 0) hx hb dX7_where_0 (by decide) ?_
  refine lv_istore_n (lv' := [(3, .int 0), (0, .ref r), (1, .int px), (2, .int py)]) hx hb dX7_where_1 rfl hl (by decide) rfl (fun ls hl => ?_)
  refine lv_iconst (v := 0) hx hb dX7_where_2 (by decide) ?_
  refine lv_istore (lv' := [(4, .int 0), (3, .int 0), (0, .ref r), (1, .int px), (2, .int py)]) hx hb dX7_where_3 hl (by decide) rfl (fun ls hl => ?_)
  have hl_5 : ∀ (n9 : Nat) (i : Nat) (H : Heap) (locs : List Loc) (ls : Array Slot), n - i < n9 → (i ≤ n) → (∀ k, k < i → ¬ eOn n X Y k px.toInt py.toInt) → va_P (dC, dI) classes [(r, .inr (6, [.ref rx, .ref ry, .int (nI n), .int rg])), (rx, .inl (cI, cap, .inl X)), (ry, .inl (cI, cap, .inl Y))] H → va_D A [(r, .inr (6, [.ref rx, .ref ry, .int (nI n), .int rg])), (rx, .inl (cI, cap, .inl X)), (ry, .inl (cI, cap, .inl Y))] → va_S A s.heap H locs → lv_has ls 7 [(4, .int (nI i)), (3, .int (pI (par2 (eTg n X Y px.toInt py.toInt) i))), (0, .ref r), (1, .int px), (2, .int py)] → W p l e ((headSpec (.code yX7_where cX7_where 7 (some .int) :: ws0) ({ frames := 0, cells := 0, slots := 0, locals := 0 } : Room)).room) s m ([.ref r, .int px, .int py] : List Value).toArray below meth c H locs 0 0 Q9 (F0 m 5 ls []) := by
    intro n9
    induction n9 with
    | zero => intro i H locs ls hm; exact absurd hm (Nat.not_lt_zero _)
    | succ n9 ih_5 =>
      intro i H locs ls hm hi hno hP hD hS hl
      refine lv_iload hx hb dX7_where_5 (lv_at hl 0 rfl) ?_
      refine lv_aload_n hx hb dX7_where_7 rfl (lv_at hl 2 rfl) ?_
      refine va_get (D := (dC, dI)) (ci := 6) (v := .int (nI n)) (C := RX7) (T := TX7) (N := 4) hx hb hts inX7 hown hK hP 0 rfl rfl 2 (by decide) (hts _ mw_175) (fun _ h9 => h9) rfl dX7_where_8 ?_
      refine lv_icmp_ge (tgt := 272) hx hb dX7_where_11 (by decide) (fun c_1 => ?_) (fun c_1 => ?_)
      · have c_1 : ((n : Nat) : Int) ≤ ((i : Nat) : Int) := zc_le (nI_toInt (by omega)) (nI_toInt (by omega)) c_1
        refine lv_iload_n hx hb dX7_where_272 rfl (lv_at hl 1 rfl) ?_
        refine lv_if_eq (tgt := 280) hx hb dX7_where_273 (by decide) (fun c_2 => ?_) (fun c_2 => ?_)
        · have c_2 : ¬ (par2 (eTg n X Y px.toInt py.toInt) i) := zp_0 c_2
          refine lv_iconst (v := 0) hx hb dX7_where_280 (by decide) ?_
          have hP9 := hP.sub (ws' := [(r, .inr (6, [.ref rx, .ref ry, .int (nI n), .int rg])), (rx, .inl (cI, cap, .inl X)), (ry, .inl (cI, cap, .inl Y))]) [0, 1, 2] rfl
          have hD9 := hD.sub (ws' := [(r, .inr (6, [.ref rx, .ref ry, .int (nI n), .int rg])), (rx, .inl (cI, cap, .inl X)), (ry, .inl (cI, cap, .inl Y))]) [0, 1, 2] (by decide) rfl
          rw [hQ9]
          exact W.iret (v := 0) hx hb hr (fun t ht hW => ⟨⟨congrArg (fun z => Outcome.returned (some (Value.int z))) (show (0 : Int32) = whr n X Y px.toInt py.toInt from by obtain rfl : i = n := (by omega); rw [whr_n (fun ⟨k, hk, h⟩ => hno k hk h)]; first | exact (zp_t (by assumption)).symm | exact (zp_f (by assumption)).symm), by rw [ht]; exact hP9, hD9⟩, hS.F ht⟩) hS.2.2 dX7_where_281
        · have c_2 : par2 (eTg n X Y px.toInt py.toInt) i := zp_1 c_2
          refine lv_iconst (v := 1) hx hb dX7_where_276 (by decide) ?_
          refine lv_goto (tgt := 281) hx hb dX7_where_277 (by decide) ?_
          have hP9 := hP.sub (ws' := [(r, .inr (6, [.ref rx, .ref ry, .int (nI n), .int rg])), (rx, .inl (cI, cap, .inl X)), (ry, .inl (cI, cap, .inl Y))]) [0, 1, 2] rfl
          have hD9 := hD.sub (ws' := [(r, .inr (6, [.ref rx, .ref ry, .int (nI n), .int rg])), (rx, .inl (cI, cap, .inl X)), (ry, .inl (cI, cap, .inl Y))]) [0, 1, 2] (by decide) rfl
          rw [hQ9]
          exact W.iret (v := 1) hx hb hr (fun t ht hW => ⟨⟨congrArg (fun z => Outcome.returned (some (Value.int z))) (show (1 : Int32) = whr n X Y px.toInt py.toInt from by obtain rfl : i = n := (by omega); rw [whr_n (fun ⟨k, hk, h⟩ => hno k hk h)]; first | exact (zp_t (by assumption)).symm | exact (zp_f (by assumption)).symm), by rw [ht]; exact hP9, hD9⟩, hS.F ht⟩) hS.2.2 dX7_where_281
      · have c_1 : ((i : Nat) : Int) < ((n : Nat) : Int) := zc_nle (nI_toInt (by omega)) (nI_toInt (by omega)) c_1
        refine lv_iload hx hb dX7_where_14 (lv_at hl 0 rfl) ?_
        refine lv_iconst (v := 1) hx hb dX7_where_16 (by decide) ?_
        refine lv_iadd hx hb dX7_where_17 ?_
        refine zz_i (v := nI (i + 1)) (nI_add i 1) ?_
        refine lv_aload_n hx hb dX7_where_18 rfl (lv_at hl 2 rfl) ?_
        refine va_get (D := (dC, dI)) (ci := 6) (v := .int (nI n)) (C := RX7) (T := TX7) (N := 4) hx hb hts inX7 hown hK hP 0 rfl rfl 2 (by decide) (hts _ mw_175) (fun _ h9 => h9) rfl dX7_where_19 ?_
        have hj_3 : W p l e ((headSpec (.code yX7_where cX7_where 7 (some .int) :: ws0) ({ frames := 0, cells := 0, slots := 0, locals := 0 } : Room)).room) s m ([.ref r, .int px, .int py] : List Value).toArray below meth c H locs 0 0 Q9 (F0 m 33 ls [.int (nI (nxt n i))]) := by
          have hnx := nxt_lt (n := n) (i := i) (by omega)
          refine lv_istore (lv' := [(5, .int (nI (nxt n i))), (4, .int (nI i)), (3, .int (pI (par2 (eTg n X Y px.toInt py.toInt) i))), (0, .ref r), (1, .int px), (2, .int py)]) hx hb dX7_where_33 hl (by decide) rfl (fun ls hl => ?_)
          refine lv_aload_n hx hb dX7_where_35 rfl (lv_at hl 3 rfl) ?_
          refine va_get (D := (dC, dI)) (ci := 6) (v := .ref ry) (C := RX7) (T := TX7) (N := 4) hx hb hts inX7 hown hK hP 0 rfl rfl 1 (by decide) (hts _ mw_168) (fun _ h9 => h9) rfl dX7_where_36 ?_
          refine lv_iload hx hb dX7_where_39 (lv_at hl 1 rfl) ?_
          refine z_iald hx hb hK hP 2 0 rfl rfl (e := i) rfl (by omega) (by omega) dX7_where_41 ?_
          refine lv_iload_n hx hb dX7_where_42 rfl (lv_at hl 5 rfl) ?_
          refine lv_icmp_le (tgt := 57) hx hb dX7_where_43 (by decide) (fun c_4 => ?_) (fun c_4 => ?_)
          · have c_4 : (Y i).toInt ≤ py.toInt := zc_le rfl rfl c_4
            refine lv_aload_n hx hb dX7_where_57 rfl (lv_at hl 3 rfl) ?_
            refine va_get (D := (dC, dI)) (ci := 6) (v := .ref ry) (C := RX7) (T := TX7) (N := 4) hx hb hts inX7 hown hK hP 0 rfl rfl 1 (by decide) (hts _ mw_168) (fun _ h9 => h9) rfl dX7_where_58 ?_
            refine lv_iload hx hb dX7_where_61 (lv_at hl 1 rfl) ?_
            refine z_iald hx hb hK hP 2 0 rfl rfl (e := i) rfl (by omega) (by omega) dX7_where_63 ?_
            refine lv_iload_n hx hb dX7_where_64 rfl (lv_at hl 5 rfl) ?_
            refine lv_icmp_ge (tgt := 79) hx hb dX7_where_65 (by decide) (fun c_5 => ?_) (fun c_5 => ?_)
            · have c_5 : py.toInt ≤ (Y i).toInt := zc_le rfl rfl c_5
              refine lv_aload_n hx hb dX7_where_79 rfl (lv_at hl 3 rfl) ?_
              refine va_get (D := (dC, dI)) (ci := 6) (v := .ref rx) (C := RX7) (T := TX7) (N := 4) hx hb hts inX7 hown hK hP 0 rfl rfl 0 (by decide) (hts _ mw_161) (fun _ h9 => h9) rfl dX7_where_80 ?_
              refine lv_iload hx hb dX7_where_83 (lv_at hl 1 rfl) ?_
              refine z_iald hx hb hK hP 1 0 rfl rfl (e := i) rfl (by omega) (by omega) dX7_where_85 ?_
              refine lv_iload_n hx hb dX7_where_86 rfl (lv_at hl 4 rfl) ?_
              refine lv_icmp_ge (tgt := 104) hx hb dX7_where_87 (by decide) (fun c_6 => ?_) (fun c_6 => ?_)
              · have c_6 : px.toInt ≤ (X i).toInt := zc_le rfl rfl c_6
                refine lv_aload_n hx hb dX7_where_104 rfl (lv_at hl 3 rfl) ?_
                refine va_get (D := (dC, dI)) (ci := 6) (v := .ref rx) (C := RX7) (T := TX7) (N := 4) hx hb hts inX7 hown hK hP 0 rfl rfl 0 (by decide) (hts _ mw_161) (fun _ h9 => h9) rfl dX7_where_105 ?_
                refine lv_iload hx hb dX7_where_108 (lv_at hl 0 rfl) ?_
                refine z_iald hx hb hK hP 1 0 rfl rfl (e := nxt n i) rfl (by omega) (by omega) dX7_where_110 ?_
                refine lv_aload_n hx hb dX7_where_111 rfl (lv_at hl 3 rfl) ?_
                refine va_get (D := (dC, dI)) (ci := 6) (v := .ref rx) (C := RX7) (T := TX7) (N := 4) hx hb hts inX7 hown hK hP 0 rfl rfl 0 (by decide) (hts _ mw_161) (fun _ h9 => h9) rfl dX7_where_112 ?_
                refine lv_iload hx hb dX7_where_115 (lv_at hl 1 rfl) ?_
                refine z_iald hx hb hK hP 1 0 rfl rfl (e := i) rfl (by omega) (by omega) dX7_where_117 ?_
                refine lv_isub hx hb dX7_where_118 ?_
                refine lv_iload_n hx hb dX7_where_119 rfl (lv_at hl 5 rfl) ?_
                refine lv_aload_n hx hb dX7_where_120 rfl (lv_at hl 3 rfl) ?_
                refine va_get (D := (dC, dI)) (ci := 6) (v := .ref ry) (C := RX7) (T := TX7) (N := 4) hx hb hts inX7 hown hK hP 0 rfl rfl 1 (by decide) (hts _ mw_168) (fun _ h9 => h9) rfl dX7_where_121 ?_
                refine lv_iload hx hb dX7_where_124 (lv_at hl 1 rfl) ?_
                refine z_iald hx hb hK hP 2 0 rfl rfl (e := i) rfl (by omega) (by omega) dX7_where_126 ?_
                refine lv_isub hx hb dX7_where_127 ?_
                refine lv_imul hx hb dX7_where_128 ?_
                refine lv_aload_n hx hb dX7_where_129 rfl (lv_at hl 3 rfl) ?_
                refine va_get (D := (dC, dI)) (ci := 6) (v := .ref ry) (C := RX7) (T := TX7) (N := 4) hx hb hts inX7 hown hK hP 0 rfl rfl 1 (by decide) (hts _ mw_168) (fun _ h9 => h9) rfl dX7_where_130 ?_
                refine lv_iload hx hb dX7_where_133 (lv_at hl 0 rfl) ?_
                refine z_iald hx hb hK hP 2 0 rfl rfl (e := nxt n i) rfl (by omega) (by omega) dX7_where_135 ?_
                refine lv_aload_n hx hb dX7_where_136 rfl (lv_at hl 3 rfl) ?_
                refine va_get (D := (dC, dI)) (ci := 6) (v := .ref ry) (C := RX7) (T := TX7) (N := 4) hx hb hts inX7 hown hK hP 0 rfl rfl 1 (by decide) (hts _ mw_168) (fun _ h9 => h9) rfl dX7_where_137 ?_
                refine lv_iload hx hb dX7_where_140 (lv_at hl 1 rfl) ?_
                refine z_iald hx hb hK hP 2 0 rfl rfl (e := i) rfl (by omega) (by omega) dX7_where_142 ?_
                refine lv_isub hx hb dX7_where_143 ?_
                refine lv_iload_n hx hb dX7_where_144 rfl (lv_at hl 4 rfl) ?_
                refine lv_aload_n hx hb dX7_where_145 rfl (lv_at hl 3 rfl) ?_
                refine va_get (D := (dC, dI)) (ci := 6) (v := .ref rx) (C := RX7) (T := TX7) (N := 4) hx hb hts inX7 hown hK hP 0 rfl rfl 0 (by decide) (hts _ mw_161) (fun _ h9 => h9) rfl dX7_where_146 ?_
                refine lv_iload hx hb dX7_where_149 (lv_at hl 1 rfl) ?_
                refine z_iald hx hb hK hP 1 0 rfl rfl (e := i) rfl (by omega) (by omega) dX7_where_151 ?_
                refine lv_isub hx hb dX7_where_152 ?_
                refine lv_imul hx hb dX7_where_153 ?_
                refine lv_isub hx hb dX7_where_154 ?_
                refine zz_i (v := iI (eCr n X Y i px.toInt py.toInt)) (crI (hp i (by omega)).1 (hp i (by omega)).2 (hp _ hnx).1 (hp _ hnx).2 hpx hpy) ?_
                have hB1 := crBp (hp i (by omega)).1 (hp i (by omega)).2 (hp _ hnx).1 (hp _ hnx).2 hpx hpy
                have hB1 : -2000000 ≤ eCr n X Y i px.toInt py.toInt ∧ eCr n X Y i px.toInt py.toInt ≤ 2000000 := hB1
                refine lv_istore (lv' := [(6, .int (iI (eCr n X Y i px.toInt py.toInt))), (5, .int (nI (nxt n i))), (4, .int (nI i)), (3, .int (pI (par2 (eTg n X Y px.toInt py.toInt) i))), (0, .ref r), (1, .int px), (2, .int py)]) hx hb dX7_where_155 hl (by decide) rfl (fun ls hl => ?_)
                refine lv_iload hx hb dX7_where_157 (lv_at hl 0 rfl) ?_
                refine lv_if_ne (tgt := 186) hx hb dX7_where_159 (by decide) (fun c_7 => ?_) (fun c_7 => ?_)
                · have c_7 : ¬ (eCr n X Y i px.toInt py.toInt) = 0 := zc_ne (iI_toInt (by omega)) (by decide) c_7
                  refine lv_aload_n hx hb dX7_where_186 rfl (lv_at hl 4 rfl) ?_
                  refine va_get (D := (dC, dI)) (ci := 6) (v := .ref ry) (C := RX7) (T := TX7) (N := 4) hx hb hts inX7 hown hK hP 0 rfl rfl 1 (by decide) (hts _ mw_168) (fun _ h9 => h9) rfl dX7_where_187 ?_
                  refine lv_iload hx hb dX7_where_190 (lv_at hl 2 rfl) ?_
                  refine z_iald hx hb hK hP 2 0 rfl rfl (e := i) rfl (by omega) (by omega) dX7_where_192 ?_
                  refine lv_iload_n hx hb dX7_where_193 rfl (lv_at hl 6 rfl) ?_
                  refine lv_icmp_le (tgt := 201) hx hb dX7_where_194 (by decide) (fun c_8 => ?_) (fun c_8 => ?_)
                  · have c_8 : (Y i).toInt ≤ py.toInt := zc_le rfl rfl c_8
                    refine lv_iconst (v := 0) hx hb dX7_where_201 (by decide) ?_
                    refine lv_aload_n hx hb dX7_where_202 rfl (lv_at hl 4 rfl) ?_
                    refine va_get (D := (dC, dI)) (ci := 6) (v := .ref ry) (C := RX7) (T := TX7) (N := 4) hx hb hts inX7 hown hK hP 0 rfl rfl 1 (by decide) (hts _ mw_168) (fun _ h9 => h9) rfl dX7_where_203 ?_
                    refine lv_iload hx hb dX7_where_206 (lv_at hl 1 rfl) ?_
                    refine z_iald hx hb hK hP 2 0 rfl rfl (e := nxt n i) rfl (by omega) (by omega) dX7_where_208 ?_
                    refine lv_iload_n hx hb dX7_where_209 rfl (lv_at hl 6 rfl) ?_
                    refine lv_icmp_le (tgt := 217) hx hb dX7_where_210 (by decide) (fun c_9 => ?_) (fun c_9 => ?_)
                    · have c_9 : (Y (nxt n i)).toInt ≤ py.toInt := zc_le rfl rfl c_9
                      refine lv_iconst (v := 0) hx hb dX7_where_217 (by decide) ?_
                      refine lv_icmp_eq (tgt := 266) hx hb dX7_where_218 (by decide) (fun c_10 => ?_) (fun c_10 => ?_)
                      · have c_10 : 0 = 0 := zc_eq (by decide) (by decide) c_10
                        refine lv_iinc (v := nI (i + 1)) (lv' := [(4, .int (nI (i + 1))), (6, .int (iI (eCr n X Y i px.toInt py.toInt))), (5, .int (nI (nxt n i))), (3, .int (pI (par2 (eTg n X Y px.toInt py.toInt) i))), (0, .ref r), (1, .int px), (2, .int py)]) hx hb dX7_where_266 hl (k := 2) rfl (nI_add i 1) (by decide) rfl (fun ls hl => ?_)
                        refine lv_goto (tgt := 5) hx hb dX7_where_269 (by decide) ?_
                        have hl9 := lv_sub hl [0, 3, 4, 5, 6] rfl
                        have e9_3 : pI (par2 (eTg n X Y px.toInt py.toInt) (i + 1)) = (pI (par2 (eTg n X Y px.toInt py.toInt) i) : Int32) := by first | exact zp_iff (par2_n (sk_tg (by omega)).1) | exact zp_iff (par2_n (by unfold eTg; omega)) | exact zp_t ((par2_y (by unfold eTg; omega)).mpr (by assumption)) | exact zp_f (fun q => (par2_y (by unfold eTg; omega)).mp q (by assumption))
                        have hl9 : lv_has ls 7 [(4, .int (nI (i + 1))), (3, .int (pI (par2 (eTg n X Y px.toInt py.toInt) (i + 1)))), (0, .ref r), (1, .int px), (2, .int py)] := by rw [e9_3]; exact hl9
                        exact ih_5 (i + 1) H locs ls (by omega) (by omega) (by intro k hk; rcases Nat.lt_or_ge k i with h | h; exact hno k h; have e9 : k = i := (by omega); subst e9; first | exact (sk_tg (by omega)).2 | (unfold eOn onS; unfold eCr at *; omega)) hP hD hS hl9
                      · exact absurd (by decide) c_10
                    · have c_9 : py.toInt < (Y (nxt n i)).toInt := zc_nle rfl rfl c_9
                      refine lv_iconst (v := 1) hx hb dX7_where_213 (by decide) ?_
                      refine lv_goto (tgt := 218) hx hb dX7_where_214 (by decide) ?_
                      refine lv_icmp_eq (tgt := 266) hx hb dX7_where_218 (by decide) (fun c_11 => ?_) (fun c_11 => ?_)
                      · exact absurd c_11 (by decide)
                      · have c_11 : ¬ 0 = 1 := zc_ne (by decide) (by decide) c_11
                        refine lv_iload hx hb dX7_where_221 (lv_at hl 0 rfl) ?_
                        refine lv_if_le (tgt := 230) hx hb dX7_where_223 (by decide) (fun c_12 => ?_) (fun c_12 => ?_)
                        · have c_12 : (eCr n X Y i px.toInt py.toInt) ≤ 0 := zc_le (iI_toInt (by omega)) (by decide) c_12
                          refine lv_iconst (v := 0) hx hb dX7_where_230 (by decide) ?_
                          refine lv_aload_n hx hb dX7_where_231 rfl (lv_at hl 4 rfl) ?_
                          refine va_get (D := (dC, dI)) (ci := 6) (v := .ref ry) (C := RX7) (T := TX7) (N := 4) hx hb hts inX7 hown hK hP 0 rfl rfl 1 (by decide) (hts _ mw_168) (fun _ h9 => h9) rfl dX7_where_232 ?_
                          refine lv_iload hx hb dX7_where_235 (lv_at hl 1 rfl) ?_
                          refine z_iald hx hb hK hP 2 0 rfl rfl (e := nxt n i) rfl (by omega) (by omega) dX7_where_237 ?_
                          refine lv_aload_n hx hb dX7_where_238 rfl (lv_at hl 4 rfl) ?_
                          refine va_get (D := (dC, dI)) (ci := 6) (v := .ref ry) (C := RX7) (T := TX7) (N := 4) hx hb hts inX7 hown hK hP 0 rfl rfl 1 (by decide) (hts _ mw_168) (fun _ h9 => h9) rfl dX7_where_239 ?_
                          refine lv_iload hx hb dX7_where_242 (lv_at hl 2 rfl) ?_
                          refine z_iald hx hb hK hP 2 0 rfl rfl (e := i) rfl (by omega) (by omega) dX7_where_244 ?_
                          refine lv_icmp_le (tgt := 252) hx hb dX7_where_245 (by decide) (fun c_13 => ?_) (fun c_13 => ?_)
                          · have c_13 : (Y (nxt n i)).toInt ≤ (Y i).toInt := zc_le rfl rfl c_13
                            refine lv_iconst (v := 0) hx hb dX7_where_252 (by decide) ?_
                            refine lv_icmp_ne (tgt := 266) hx hb dX7_where_253 (by decide) (fun c_14 => ?_) (fun c_14 => ?_)
                            · exact absurd (by decide) c_14
                            · have c_14 : 0 = 0 := zc_eq (by decide) (by decide) c_14
                              refine lv_iload_n hx hb dX7_where_256 rfl (lv_at hl 3 rfl) ?_
                              refine lv_if_ne (tgt := 264) hx hb dX7_where_257 (by decide) (fun c_15 => ?_) (fun c_15 => ?_)
                              · have c_15 : par2 (eTg n X Y px.toInt py.toInt) i := zp_1 c_15
                                refine lv_iconst (v := 0) hx hb dX7_where_264 (by decide) ?_
                                refine lv_istore_n (lv' := [(3, .int 0), (6, .int (iI (eCr n X Y i px.toInt py.toInt))), (5, .int (nI (nxt n i))), (4, .int (nI i)), (0, .ref r), (1, .int px), (2, .int py)]) hx hb dX7_where_265 rfl hl (by decide) rfl (fun ls hl => ?_)
                                refine lv_iinc (v := nI (i + 1)) (lv' := [(4, .int (nI (i + 1))), (3, .int 0), (6, .int (iI (eCr n X Y i px.toInt py.toInt))), (5, .int (nI (nxt n i))), (0, .ref r), (1, .int px), (2, .int py)]) hx hb dX7_where_266 hl (k := 3) rfl (nI_add i 1) (by decide) rfl (fun ls hl => ?_)
                                refine lv_goto (tgt := 5) hx hb dX7_where_269 (by decide) ?_
                                have hl9 := lv_sub hl [0, 1, 4, 5, 6] rfl
                                have e9_3 : pI (par2 (eTg n X Y px.toInt py.toInt) (i + 1)) = (0 : Int32) := by first | exact zp_iff (par2_n (sk_tg (by omega)).1) | exact zp_iff (par2_n (by unfold eTg; omega)) | exact zp_t ((par2_y (by unfold eTg; omega)).mpr (by assumption)) | exact zp_f (fun q => (par2_y (by unfold eTg; omega)).mp q (by assumption))
                                have hl9 : lv_has ls 7 [(4, .int (nI (i + 1))), (3, .int (pI (par2 (eTg n X Y px.toInt py.toInt) (i + 1)))), (0, .ref r), (1, .int px), (2, .int py)] := by rw [e9_3]; exact hl9
                                exact ih_5 (i + 1) H locs ls (by omega) (by omega) (by intro k hk; rcases Nat.lt_or_ge k i with h | h; exact hno k h; have e9 : k = i := (by omega); subst e9; first | exact (sk_tg (by omega)).2 | (unfold eOn onS; unfold eCr at *; omega)) hP hD hS hl9
                              · have c_15 : ¬ (par2 (eTg n X Y px.toInt py.toInt) i) := zp_0 c_15
                                refine lv_iconst (v := 1) hx hb dX7_where_260 (by decide) ?_
                                refine lv_goto (tgt := 265) hx hb dX7_where_261 (by decide) ?_
                                refine lv_istore_n (lv' := [(3, .int 1), (6, .int (iI (eCr n X Y i px.toInt py.toInt))), (5, .int (nI (nxt n i))), (4, .int (nI i)), (0, .ref r), (1, .int px), (2, .int py)]) hx hb dX7_where_265 rfl hl (by decide) rfl (fun ls hl => ?_)
                                refine lv_iinc (v := nI (i + 1)) (lv' := [(4, .int (nI (i + 1))), (3, .int 1), (6, .int (iI (eCr n X Y i px.toInt py.toInt))), (5, .int (nI (nxt n i))), (0, .ref r), (1, .int px), (2, .int py)]) hx hb dX7_where_266 hl (k := 3) rfl (nI_add i 1) (by decide) rfl (fun ls hl => ?_)
                                refine lv_goto (tgt := 5) hx hb dX7_where_269 (by decide) ?_
                                have hl9 := lv_sub hl [0, 1, 4, 5, 6] rfl
                                have e9_3 : pI (par2 (eTg n X Y px.toInt py.toInt) (i + 1)) = (1 : Int32) := by first | exact zp_iff (par2_n (sk_tg (by omega)).1) | exact zp_iff (par2_n (by unfold eTg; omega)) | exact zp_t ((par2_y (by unfold eTg; omega)).mpr (by assumption)) | exact zp_f (fun q => (par2_y (by unfold eTg; omega)).mp q (by assumption))
                                have hl9 : lv_has ls 7 [(4, .int (nI (i + 1))), (3, .int (pI (par2 (eTg n X Y px.toInt py.toInt) (i + 1)))), (0, .ref r), (1, .int px), (2, .int py)] := by rw [e9_3]; exact hl9
                                exact ih_5 (i + 1) H locs ls (by omega) (by omega) (by intro k hk; rcases Nat.lt_or_ge k i with h | h; exact hno k h; have e9 : k = i := (by omega); subst e9; first | exact (sk_tg (by omega)).2 | (unfold eOn onS; unfold eCr at *; omega)) hP hD hS hl9
                          · have c_13 : (Y i).toInt < (Y (nxt n i)).toInt := zc_nle rfl rfl c_13
                            refine lv_iconst (v := 1) hx hb dX7_where_248 (by decide) ?_
                            refine lv_goto (tgt := 253) hx hb dX7_where_249 (by decide) ?_
                            refine lv_icmp_ne (tgt := 266) hx hb dX7_where_253 (by decide) (fun c_16 => ?_) (fun c_16 => ?_)
                            · have c_16 : ¬ 0 = 1 := zc_ne (by decide) (by decide) c_16
                              refine lv_iinc (v := nI (i + 1)) (lv' := [(4, .int (nI (i + 1))), (6, .int (iI (eCr n X Y i px.toInt py.toInt))), (5, .int (nI (nxt n i))), (3, .int (pI (par2 (eTg n X Y px.toInt py.toInt) i))), (0, .ref r), (1, .int px), (2, .int py)]) hx hb dX7_where_266 hl (k := 2) rfl (nI_add i 1) (by decide) rfl (fun ls hl => ?_)
                              refine lv_goto (tgt := 5) hx hb dX7_where_269 (by decide) ?_
                              have hl9 := lv_sub hl [0, 3, 4, 5, 6] rfl
                              have e9_3 : pI (par2 (eTg n X Y px.toInt py.toInt) (i + 1)) = (pI (par2 (eTg n X Y px.toInt py.toInt) i) : Int32) := by first | exact zp_iff (par2_n (sk_tg (by omega)).1) | exact zp_iff (par2_n (by unfold eTg; omega)) | exact zp_t ((par2_y (by unfold eTg; omega)).mpr (by assumption)) | exact zp_f (fun q => (par2_y (by unfold eTg; omega)).mp q (by assumption))
                              have hl9 : lv_has ls 7 [(4, .int (nI (i + 1))), (3, .int (pI (par2 (eTg n X Y px.toInt py.toInt) (i + 1)))), (0, .ref r), (1, .int px), (2, .int py)] := by rw [e9_3]; exact hl9
                              exact ih_5 (i + 1) H locs ls (by omega) (by omega) (by intro k hk; rcases Nat.lt_or_ge k i with h | h; exact hno k h; have e9 : k = i := (by omega); subst e9; first | exact (sk_tg (by omega)).2 | (unfold eOn onS; unfold eCr at *; omega)) hP hD hS hl9
                            · exact absurd c_16 (by decide)
                        · have c_12 : 0 < (eCr n X Y i px.toInt py.toInt) := zc_nle (iI_toInt (by omega)) (by decide) c_12
                          refine lv_iconst (v := 1) hx hb dX7_where_226 (by decide) ?_
                          refine lv_goto (tgt := 231) hx hb dX7_where_227 (by decide) ?_
                          refine lv_aload_n hx hb dX7_where_231 rfl (lv_at hl 4 rfl) ?_
                          refine va_get (D := (dC, dI)) (ci := 6) (v := .ref ry) (C := RX7) (T := TX7) (N := 4) hx hb hts inX7 hown hK hP 0 rfl rfl 1 (by decide) (hts _ mw_168) (fun _ h9 => h9) rfl dX7_where_232 ?_
                          refine lv_iload hx hb dX7_where_235 (lv_at hl 1 rfl) ?_
                          refine z_iald hx hb hK hP 2 0 rfl rfl (e := nxt n i) rfl (by omega) (by omega) dX7_where_237 ?_
                          refine lv_aload_n hx hb dX7_where_238 rfl (lv_at hl 4 rfl) ?_
                          refine va_get (D := (dC, dI)) (ci := 6) (v := .ref ry) (C := RX7) (T := TX7) (N := 4) hx hb hts inX7 hown hK hP 0 rfl rfl 1 (by decide) (hts _ mw_168) (fun _ h9 => h9) rfl dX7_where_239 ?_
                          refine lv_iload hx hb dX7_where_242 (lv_at hl 2 rfl) ?_
                          refine z_iald hx hb hK hP 2 0 rfl rfl (e := i) rfl (by omega) (by omega) dX7_where_244 ?_
                          refine lv_icmp_le (tgt := 252) hx hb dX7_where_245 (by decide) (fun c_17 => ?_) (fun c_17 => ?_)
                          · have c_17 : (Y (nxt n i)).toInt ≤ (Y i).toInt := zc_le rfl rfl c_17
                            refine lv_iconst (v := 0) hx hb dX7_where_252 (by decide) ?_
                            refine lv_icmp_ne (tgt := 266) hx hb dX7_where_253 (by decide) (fun c_18 => ?_) (fun c_18 => ?_)
                            · have c_18 : ¬ 1 = 0 := zc_ne (by decide) (by decide) c_18
                              refine lv_iinc (v := nI (i + 1)) (lv' := [(4, .int (nI (i + 1))), (6, .int (iI (eCr n X Y i px.toInt py.toInt))), (5, .int (nI (nxt n i))), (3, .int (pI (par2 (eTg n X Y px.toInt py.toInt) i))), (0, .ref r), (1, .int px), (2, .int py)]) hx hb dX7_where_266 hl (k := 2) rfl (nI_add i 1) (by decide) rfl (fun ls hl => ?_)
                              refine lv_goto (tgt := 5) hx hb dX7_where_269 (by decide) ?_
                              have hl9 := lv_sub hl [0, 3, 4, 5, 6] rfl
                              have e9_3 : pI (par2 (eTg n X Y px.toInt py.toInt) (i + 1)) = (pI (par2 (eTg n X Y px.toInt py.toInt) i) : Int32) := by first | exact zp_iff (par2_n (sk_tg (by omega)).1) | exact zp_iff (par2_n (by unfold eTg; omega)) | exact zp_t ((par2_y (by unfold eTg; omega)).mpr (by assumption)) | exact zp_f (fun q => (par2_y (by unfold eTg; omega)).mp q (by assumption))
                              have hl9 : lv_has ls 7 [(4, .int (nI (i + 1))), (3, .int (pI (par2 (eTg n X Y px.toInt py.toInt) (i + 1)))), (0, .ref r), (1, .int px), (2, .int py)] := by rw [e9_3]; exact hl9
                              exact ih_5 (i + 1) H locs ls (by omega) (by omega) (by intro k hk; rcases Nat.lt_or_ge k i with h | h; exact hno k h; have e9 : k = i := (by omega); subst e9; first | exact (sk_tg (by omega)).2 | (unfold eOn onS; unfold eCr at *; omega)) hP hD hS hl9
                            · exact absurd c_18 (by decide)
                          · have c_17 : (Y i).toInt < (Y (nxt n i)).toInt := zc_nle rfl rfl c_17
                            refine lv_iconst (v := 1) hx hb dX7_where_248 (by decide) ?_
                            refine lv_goto (tgt := 253) hx hb dX7_where_249 (by decide) ?_
                            refine lv_icmp_ne (tgt := 266) hx hb dX7_where_253 (by decide) (fun c_19 => ?_) (fun c_19 => ?_)
                            · exact absurd (by decide) c_19
                            · have c_19 : 1 = 1 := zc_eq (by decide) (by decide) c_19
                              refine lv_iload_n hx hb dX7_where_256 rfl (lv_at hl 3 rfl) ?_
                              refine lv_if_ne (tgt := 264) hx hb dX7_where_257 (by decide) (fun c_20 => ?_) (fun c_20 => ?_)
                              · have c_20 : par2 (eTg n X Y px.toInt py.toInt) i := zp_1 c_20
                                refine lv_iconst (v := 0) hx hb dX7_where_264 (by decide) ?_
                                refine lv_istore_n (lv' := [(3, .int 0), (6, .int (iI (eCr n X Y i px.toInt py.toInt))), (5, .int (nI (nxt n i))), (4, .int (nI i)), (0, .ref r), (1, .int px), (2, .int py)]) hx hb dX7_where_265 rfl hl (by decide) rfl (fun ls hl => ?_)
                                refine lv_iinc (v := nI (i + 1)) (lv' := [(4, .int (nI (i + 1))), (3, .int 0), (6, .int (iI (eCr n X Y i px.toInt py.toInt))), (5, .int (nI (nxt n i))), (0, .ref r), (1, .int px), (2, .int py)]) hx hb dX7_where_266 hl (k := 3) rfl (nI_add i 1) (by decide) rfl (fun ls hl => ?_)
                                refine lv_goto (tgt := 5) hx hb dX7_where_269 (by decide) ?_
                                have hl9 := lv_sub hl [0, 1, 4, 5, 6] rfl
                                have e9_3 : pI (par2 (eTg n X Y px.toInt py.toInt) (i + 1)) = (0 : Int32) := by first | exact zp_iff (par2_n (sk_tg (by omega)).1) | exact zp_iff (par2_n (by unfold eTg; omega)) | exact zp_t ((par2_y (by unfold eTg; omega)).mpr (by assumption)) | exact zp_f (fun q => (par2_y (by unfold eTg; omega)).mp q (by assumption))
                                have hl9 : lv_has ls 7 [(4, .int (nI (i + 1))), (3, .int (pI (par2 (eTg n X Y px.toInt py.toInt) (i + 1)))), (0, .ref r), (1, .int px), (2, .int py)] := by rw [e9_3]; exact hl9
                                exact ih_5 (i + 1) H locs ls (by omega) (by omega) (by intro k hk; rcases Nat.lt_or_ge k i with h | h; exact hno k h; have e9 : k = i := (by omega); subst e9; first | exact (sk_tg (by omega)).2 | (unfold eOn onS; unfold eCr at *; omega)) hP hD hS hl9
                              · have c_20 : ¬ (par2 (eTg n X Y px.toInt py.toInt) i) := zp_0 c_20
                                refine lv_iconst (v := 1) hx hb dX7_where_260 (by decide) ?_
                                refine lv_goto (tgt := 265) hx hb dX7_where_261 (by decide) ?_
                                refine lv_istore_n (lv' := [(3, .int 1), (6, .int (iI (eCr n X Y i px.toInt py.toInt))), (5, .int (nI (nxt n i))), (4, .int (nI i)), (0, .ref r), (1, .int px), (2, .int py)]) hx hb dX7_where_265 rfl hl (by decide) rfl (fun ls hl => ?_)
                                refine lv_iinc (v := nI (i + 1)) (lv' := [(4, .int (nI (i + 1))), (3, .int 1), (6, .int (iI (eCr n X Y i px.toInt py.toInt))), (5, .int (nI (nxt n i))), (0, .ref r), (1, .int px), (2, .int py)]) hx hb dX7_where_266 hl (k := 3) rfl (nI_add i 1) (by decide) rfl (fun ls hl => ?_)
                                refine lv_goto (tgt := 5) hx hb dX7_where_269 (by decide) ?_
                                have hl9 := lv_sub hl [0, 1, 4, 5, 6] rfl
                                have e9_3 : pI (par2 (eTg n X Y px.toInt py.toInt) (i + 1)) = (1 : Int32) := by first | exact zp_iff (par2_n (sk_tg (by omega)).1) | exact zp_iff (par2_n (by unfold eTg; omega)) | exact zp_t ((par2_y (by unfold eTg; omega)).mpr (by assumption)) | exact zp_f (fun q => (par2_y (by unfold eTg; omega)).mp q (by assumption))
                                have hl9 : lv_has ls 7 [(4, .int (nI (i + 1))), (3, .int (pI (par2 (eTg n X Y px.toInt py.toInt) (i + 1)))), (0, .ref r), (1, .int px), (2, .int py)] := by rw [e9_3]; exact hl9
                                exact ih_5 (i + 1) H locs ls (by omega) (by omega) (by intro k hk; rcases Nat.lt_or_ge k i with h | h; exact hno k h; have e9 : k = i := (by omega); subst e9; first | exact (sk_tg (by omega)).2 | (unfold eOn onS; unfold eCr at *; omega)) hP hD hS hl9
                  · have c_8 : py.toInt < (Y i).toInt := zc_nle rfl rfl c_8
                    refine lv_iconst (v := 1) hx hb dX7_where_197 (by decide) ?_
                    refine lv_goto (tgt := 202) hx hb dX7_where_198 (by decide) ?_
                    refine lv_aload_n hx hb dX7_where_202 rfl (lv_at hl 4 rfl) ?_
                    refine va_get (D := (dC, dI)) (ci := 6) (v := .ref ry) (C := RX7) (T := TX7) (N := 4) hx hb hts inX7 hown hK hP 0 rfl rfl 1 (by decide) (hts _ mw_168) (fun _ h9 => h9) rfl dX7_where_203 ?_
                    refine lv_iload hx hb dX7_where_206 (lv_at hl 1 rfl) ?_
                    refine z_iald hx hb hK hP 2 0 rfl rfl (e := nxt n i) rfl (by omega) (by omega) dX7_where_208 ?_
                    refine lv_iload_n hx hb dX7_where_209 rfl (lv_at hl 6 rfl) ?_
                    refine lv_icmp_le (tgt := 217) hx hb dX7_where_210 (by decide) (fun c_21 => ?_) (fun c_21 => ?_)
                    · have c_21 : (Y (nxt n i)).toInt ≤ py.toInt := zc_le rfl rfl c_21
                      refine lv_iconst (v := 0) hx hb dX7_where_217 (by decide) ?_
                      refine lv_icmp_eq (tgt := 266) hx hb dX7_where_218 (by decide) (fun c_22 => ?_) (fun c_22 => ?_)
                      · exact absurd c_22 (by decide)
                      · have c_22 : ¬ 1 = 0 := zc_ne (by decide) (by decide) c_22
                        refine lv_iload hx hb dX7_where_221 (lv_at hl 0 rfl) ?_
                        refine lv_if_le (tgt := 230) hx hb dX7_where_223 (by decide) (fun c_23 => ?_) (fun c_23 => ?_)
                        · have c_23 : (eCr n X Y i px.toInt py.toInt) ≤ 0 := zc_le (iI_toInt (by omega)) (by decide) c_23
                          refine lv_iconst (v := 0) hx hb dX7_where_230 (by decide) ?_
                          refine lv_aload_n hx hb dX7_where_231 rfl (lv_at hl 4 rfl) ?_
                          refine va_get (D := (dC, dI)) (ci := 6) (v := .ref ry) (C := RX7) (T := TX7) (N := 4) hx hb hts inX7 hown hK hP 0 rfl rfl 1 (by decide) (hts _ mw_168) (fun _ h9 => h9) rfl dX7_where_232 ?_
                          refine lv_iload hx hb dX7_where_235 (lv_at hl 1 rfl) ?_
                          refine z_iald hx hb hK hP 2 0 rfl rfl (e := nxt n i) rfl (by omega) (by omega) dX7_where_237 ?_
                          refine lv_aload_n hx hb dX7_where_238 rfl (lv_at hl 4 rfl) ?_
                          refine va_get (D := (dC, dI)) (ci := 6) (v := .ref ry) (C := RX7) (T := TX7) (N := 4) hx hb hts inX7 hown hK hP 0 rfl rfl 1 (by decide) (hts _ mw_168) (fun _ h9 => h9) rfl dX7_where_239 ?_
                          refine lv_iload hx hb dX7_where_242 (lv_at hl 2 rfl) ?_
                          refine z_iald hx hb hK hP 2 0 rfl rfl (e := i) rfl (by omega) (by omega) dX7_where_244 ?_
                          refine lv_icmp_le (tgt := 252) hx hb dX7_where_245 (by decide) (fun c_24 => ?_) (fun c_24 => ?_)
                          · have c_24 : (Y (nxt n i)).toInt ≤ (Y i).toInt := zc_le rfl rfl c_24
                            refine lv_iconst (v := 0) hx hb dX7_where_252 (by decide) ?_
                            refine lv_icmp_ne (tgt := 266) hx hb dX7_where_253 (by decide) (fun c_25 => ?_) (fun c_25 => ?_)
                            · exact absurd (by decide) c_25
                            · have c_25 : 0 = 0 := zc_eq (by decide) (by decide) c_25
                              refine lv_iload_n hx hb dX7_where_256 rfl (lv_at hl 3 rfl) ?_
                              refine lv_if_ne (tgt := 264) hx hb dX7_where_257 (by decide) (fun c_26 => ?_) (fun c_26 => ?_)
                              · have c_26 : par2 (eTg n X Y px.toInt py.toInt) i := zp_1 c_26
                                refine lv_iconst (v := 0) hx hb dX7_where_264 (by decide) ?_
                                refine lv_istore_n (lv' := [(3, .int 0), (6, .int (iI (eCr n X Y i px.toInt py.toInt))), (5, .int (nI (nxt n i))), (4, .int (nI i)), (0, .ref r), (1, .int px), (2, .int py)]) hx hb dX7_where_265 rfl hl (by decide) rfl (fun ls hl => ?_)
                                refine lv_iinc (v := nI (i + 1)) (lv' := [(4, .int (nI (i + 1))), (3, .int 0), (6, .int (iI (eCr n X Y i px.toInt py.toInt))), (5, .int (nI (nxt n i))), (0, .ref r), (1, .int px), (2, .int py)]) hx hb dX7_where_266 hl (k := 3) rfl (nI_add i 1) (by decide) rfl (fun ls hl => ?_)
                                refine lv_goto (tgt := 5) hx hb dX7_where_269 (by decide) ?_
                                have hl9 := lv_sub hl [0, 1, 4, 5, 6] rfl
                                have e9_3 : pI (par2 (eTg n X Y px.toInt py.toInt) (i + 1)) = (0 : Int32) := by first | exact zp_iff (par2_n (sk_tg (by omega)).1) | exact zp_iff (par2_n (by unfold eTg; omega)) | exact zp_t ((par2_y (by unfold eTg; omega)).mpr (by assumption)) | exact zp_f (fun q => (par2_y (by unfold eTg; omega)).mp q (by assumption))
                                have hl9 : lv_has ls 7 [(4, .int (nI (i + 1))), (3, .int (pI (par2 (eTg n X Y px.toInt py.toInt) (i + 1)))), (0, .ref r), (1, .int px), (2, .int py)] := by rw [e9_3]; exact hl9
                                exact ih_5 (i + 1) H locs ls (by omega) (by omega) (by intro k hk; rcases Nat.lt_or_ge k i with h | h; exact hno k h; have e9 : k = i := (by omega); subst e9; first | exact (sk_tg (by omega)).2 | (unfold eOn onS; unfold eCr at *; omega)) hP hD hS hl9
                              · have c_26 : ¬ (par2 (eTg n X Y px.toInt py.toInt) i) := zp_0 c_26
                                refine lv_iconst (v := 1) hx hb dX7_where_260 (by decide) ?_
                                refine lv_goto (tgt := 265) hx hb dX7_where_261 (by decide) ?_
                                refine lv_istore_n (lv' := [(3, .int 1), (6, .int (iI (eCr n X Y i px.toInt py.toInt))), (5, .int (nI (nxt n i))), (4, .int (nI i)), (0, .ref r), (1, .int px), (2, .int py)]) hx hb dX7_where_265 rfl hl (by decide) rfl (fun ls hl => ?_)
                                refine lv_iinc (v := nI (i + 1)) (lv' := [(4, .int (nI (i + 1))), (3, .int 1), (6, .int (iI (eCr n X Y i px.toInt py.toInt))), (5, .int (nI (nxt n i))), (0, .ref r), (1, .int px), (2, .int py)]) hx hb dX7_where_266 hl (k := 3) rfl (nI_add i 1) (by decide) rfl (fun ls hl => ?_)
                                refine lv_goto (tgt := 5) hx hb dX7_where_269 (by decide) ?_
                                have hl9 := lv_sub hl [0, 1, 4, 5, 6] rfl
                                have e9_3 : pI (par2 (eTg n X Y px.toInt py.toInt) (i + 1)) = (1 : Int32) := by first | exact zp_iff (par2_n (sk_tg (by omega)).1) | exact zp_iff (par2_n (by unfold eTg; omega)) | exact zp_t ((par2_y (by unfold eTg; omega)).mpr (by assumption)) | exact zp_f (fun q => (par2_y (by unfold eTg; omega)).mp q (by assumption))
                                have hl9 : lv_has ls 7 [(4, .int (nI (i + 1))), (3, .int (pI (par2 (eTg n X Y px.toInt py.toInt) (i + 1)))), (0, .ref r), (1, .int px), (2, .int py)] := by rw [e9_3]; exact hl9
                                exact ih_5 (i + 1) H locs ls (by omega) (by omega) (by intro k hk; rcases Nat.lt_or_ge k i with h | h; exact hno k h; have e9 : k = i := (by omega); subst e9; first | exact (sk_tg (by omega)).2 | (unfold eOn onS; unfold eCr at *; omega)) hP hD hS hl9
                          · have c_24 : (Y i).toInt < (Y (nxt n i)).toInt := zc_nle rfl rfl c_24
                            refine lv_iconst (v := 1) hx hb dX7_where_248 (by decide) ?_
                            refine lv_goto (tgt := 253) hx hb dX7_where_249 (by decide) ?_
                            refine lv_icmp_ne (tgt := 266) hx hb dX7_where_253 (by decide) (fun c_27 => ?_) (fun c_27 => ?_)
                            · have c_27 : ¬ 0 = 1 := zc_ne (by decide) (by decide) c_27
                              refine lv_iinc (v := nI (i + 1)) (lv' := [(4, .int (nI (i + 1))), (6, .int (iI (eCr n X Y i px.toInt py.toInt))), (5, .int (nI (nxt n i))), (3, .int (pI (par2 (eTg n X Y px.toInt py.toInt) i))), (0, .ref r), (1, .int px), (2, .int py)]) hx hb dX7_where_266 hl (k := 2) rfl (nI_add i 1) (by decide) rfl (fun ls hl => ?_)
                              refine lv_goto (tgt := 5) hx hb dX7_where_269 (by decide) ?_
                              have hl9 := lv_sub hl [0, 3, 4, 5, 6] rfl
                              have e9_3 : pI (par2 (eTg n X Y px.toInt py.toInt) (i + 1)) = (pI (par2 (eTg n X Y px.toInt py.toInt) i) : Int32) := by first | exact zp_iff (par2_n (sk_tg (by omega)).1) | exact zp_iff (par2_n (by unfold eTg; omega)) | exact zp_t ((par2_y (by unfold eTg; omega)).mpr (by assumption)) | exact zp_f (fun q => (par2_y (by unfold eTg; omega)).mp q (by assumption))
                              have hl9 : lv_has ls 7 [(4, .int (nI (i + 1))), (3, .int (pI (par2 (eTg n X Y px.toInt py.toInt) (i + 1)))), (0, .ref r), (1, .int px), (2, .int py)] := by rw [e9_3]; exact hl9
                              exact ih_5 (i + 1) H locs ls (by omega) (by omega) (by intro k hk; rcases Nat.lt_or_ge k i with h | h; exact hno k h; have e9 : k = i := (by omega); subst e9; first | exact (sk_tg (by omega)).2 | (unfold eOn onS; unfold eCr at *; omega)) hP hD hS hl9
                            · exact absurd c_27 (by decide)
                        · have c_23 : 0 < (eCr n X Y i px.toInt py.toInt) := zc_nle (iI_toInt (by omega)) (by decide) c_23
                          refine lv_iconst (v := 1) hx hb dX7_where_226 (by decide) ?_
                          refine lv_goto (tgt := 231) hx hb dX7_where_227 (by decide) ?_
                          refine lv_aload_n hx hb dX7_where_231 rfl (lv_at hl 4 rfl) ?_
                          refine va_get (D := (dC, dI)) (ci := 6) (v := .ref ry) (C := RX7) (T := TX7) (N := 4) hx hb hts inX7 hown hK hP 0 rfl rfl 1 (by decide) (hts _ mw_168) (fun _ h9 => h9) rfl dX7_where_232 ?_
                          refine lv_iload hx hb dX7_where_235 (lv_at hl 1 rfl) ?_
                          refine z_iald hx hb hK hP 2 0 rfl rfl (e := nxt n i) rfl (by omega) (by omega) dX7_where_237 ?_
                          refine lv_aload_n hx hb dX7_where_238 rfl (lv_at hl 4 rfl) ?_
                          refine va_get (D := (dC, dI)) (ci := 6) (v := .ref ry) (C := RX7) (T := TX7) (N := 4) hx hb hts inX7 hown hK hP 0 rfl rfl 1 (by decide) (hts _ mw_168) (fun _ h9 => h9) rfl dX7_where_239 ?_
                          refine lv_iload hx hb dX7_where_242 (lv_at hl 2 rfl) ?_
                          refine z_iald hx hb hK hP 2 0 rfl rfl (e := i) rfl (by omega) (by omega) dX7_where_244 ?_
                          refine lv_icmp_le (tgt := 252) hx hb dX7_where_245 (by decide) (fun c_28 => ?_) (fun c_28 => ?_)
                          · have c_28 : (Y (nxt n i)).toInt ≤ (Y i).toInt := zc_le rfl rfl c_28
                            refine lv_iconst (v := 0) hx hb dX7_where_252 (by decide) ?_
                            refine lv_icmp_ne (tgt := 266) hx hb dX7_where_253 (by decide) (fun c_29 => ?_) (fun c_29 => ?_)
                            · have c_29 : ¬ 1 = 0 := zc_ne (by decide) (by decide) c_29
                              refine lv_iinc (v := nI (i + 1)) (lv' := [(4, .int (nI (i + 1))), (6, .int (iI (eCr n X Y i px.toInt py.toInt))), (5, .int (nI (nxt n i))), (3, .int (pI (par2 (eTg n X Y px.toInt py.toInt) i))), (0, .ref r), (1, .int px), (2, .int py)]) hx hb dX7_where_266 hl (k := 2) rfl (nI_add i 1) (by decide) rfl (fun ls hl => ?_)
                              refine lv_goto (tgt := 5) hx hb dX7_where_269 (by decide) ?_
                              have hl9 := lv_sub hl [0, 3, 4, 5, 6] rfl
                              have e9_3 : pI (par2 (eTg n X Y px.toInt py.toInt) (i + 1)) = (pI (par2 (eTg n X Y px.toInt py.toInt) i) : Int32) := by first | exact zp_iff (par2_n (sk_tg (by omega)).1) | exact zp_iff (par2_n (by unfold eTg; omega)) | exact zp_t ((par2_y (by unfold eTg; omega)).mpr (by assumption)) | exact zp_f (fun q => (par2_y (by unfold eTg; omega)).mp q (by assumption))
                              have hl9 : lv_has ls 7 [(4, .int (nI (i + 1))), (3, .int (pI (par2 (eTg n X Y px.toInt py.toInt) (i + 1)))), (0, .ref r), (1, .int px), (2, .int py)] := by rw [e9_3]; exact hl9
                              exact ih_5 (i + 1) H locs ls (by omega) (by omega) (by intro k hk; rcases Nat.lt_or_ge k i with h | h; exact hno k h; have e9 : k = i := (by omega); subst e9; first | exact (sk_tg (by omega)).2 | (unfold eOn onS; unfold eCr at *; omega)) hP hD hS hl9
                            · exact absurd c_29 (by decide)
                          · have c_28 : (Y i).toInt < (Y (nxt n i)).toInt := zc_nle rfl rfl c_28
                            refine lv_iconst (v := 1) hx hb dX7_where_248 (by decide) ?_
                            refine lv_goto (tgt := 253) hx hb dX7_where_249 (by decide) ?_
                            refine lv_icmp_ne (tgt := 266) hx hb dX7_where_253 (by decide) (fun c_30 => ?_) (fun c_30 => ?_)
                            · exact absurd (by decide) c_30
                            · have c_30 : 1 = 1 := zc_eq (by decide) (by decide) c_30
                              refine lv_iload_n hx hb dX7_where_256 rfl (lv_at hl 3 rfl) ?_
                              refine lv_if_ne (tgt := 264) hx hb dX7_where_257 (by decide) (fun c_31 => ?_) (fun c_31 => ?_)
                              · have c_31 : par2 (eTg n X Y px.toInt py.toInt) i := zp_1 c_31
                                refine lv_iconst (v := 0) hx hb dX7_where_264 (by decide) ?_
                                refine lv_istore_n (lv' := [(3, .int 0), (6, .int (iI (eCr n X Y i px.toInt py.toInt))), (5, .int (nI (nxt n i))), (4, .int (nI i)), (0, .ref r), (1, .int px), (2, .int py)]) hx hb dX7_where_265 rfl hl (by decide) rfl (fun ls hl => ?_)
                                refine lv_iinc (v := nI (i + 1)) (lv' := [(4, .int (nI (i + 1))), (3, .int 0), (6, .int (iI (eCr n X Y i px.toInt py.toInt))), (5, .int (nI (nxt n i))), (0, .ref r), (1, .int px), (2, .int py)]) hx hb dX7_where_266 hl (k := 3) rfl (nI_add i 1) (by decide) rfl (fun ls hl => ?_)
                                refine lv_goto (tgt := 5) hx hb dX7_where_269 (by decide) ?_
                                have hl9 := lv_sub hl [0, 1, 4, 5, 6] rfl
                                have e9_3 : pI (par2 (eTg n X Y px.toInt py.toInt) (i + 1)) = (0 : Int32) := by first | exact zp_iff (par2_n (sk_tg (by omega)).1) | exact zp_iff (par2_n (by unfold eTg; omega)) | exact zp_t ((par2_y (by unfold eTg; omega)).mpr (by assumption)) | exact zp_f (fun q => (par2_y (by unfold eTg; omega)).mp q (by assumption))
                                have hl9 : lv_has ls 7 [(4, .int (nI (i + 1))), (3, .int (pI (par2 (eTg n X Y px.toInt py.toInt) (i + 1)))), (0, .ref r), (1, .int px), (2, .int py)] := by rw [e9_3]; exact hl9
                                exact ih_5 (i + 1) H locs ls (by omega) (by omega) (by intro k hk; rcases Nat.lt_or_ge k i with h | h; exact hno k h; have e9 : k = i := (by omega); subst e9; first | exact (sk_tg (by omega)).2 | (unfold eOn onS; unfold eCr at *; omega)) hP hD hS hl9
                              · have c_31 : ¬ (par2 (eTg n X Y px.toInt py.toInt) i) := zp_0 c_31
                                refine lv_iconst (v := 1) hx hb dX7_where_260 (by decide) ?_
                                refine lv_goto (tgt := 265) hx hb dX7_where_261 (by decide) ?_
                                refine lv_istore_n (lv' := [(3, .int 1), (6, .int (iI (eCr n X Y i px.toInt py.toInt))), (5, .int (nI (nxt n i))), (4, .int (nI i)), (0, .ref r), (1, .int px), (2, .int py)]) hx hb dX7_where_265 rfl hl (by decide) rfl (fun ls hl => ?_)
                                refine lv_iinc (v := nI (i + 1)) (lv' := [(4, .int (nI (i + 1))), (3, .int 1), (6, .int (iI (eCr n X Y i px.toInt py.toInt))), (5, .int (nI (nxt n i))), (0, .ref r), (1, .int px), (2, .int py)]) hx hb dX7_where_266 hl (k := 3) rfl (nI_add i 1) (by decide) rfl (fun ls hl => ?_)
                                refine lv_goto (tgt := 5) hx hb dX7_where_269 (by decide) ?_
                                have hl9 := lv_sub hl [0, 1, 4, 5, 6] rfl
                                have e9_3 : pI (par2 (eTg n X Y px.toInt py.toInt) (i + 1)) = (1 : Int32) := by first | exact zp_iff (par2_n (sk_tg (by omega)).1) | exact zp_iff (par2_n (by unfold eTg; omega)) | exact zp_t ((par2_y (by unfold eTg; omega)).mpr (by assumption)) | exact zp_f (fun q => (par2_y (by unfold eTg; omega)).mp q (by assumption))
                                have hl9 : lv_has ls 7 [(4, .int (nI (i + 1))), (3, .int (pI (par2 (eTg n X Y px.toInt py.toInt) (i + 1)))), (0, .ref r), (1, .int px), (2, .int py)] := by rw [e9_3]; exact hl9
                                exact ih_5 (i + 1) H locs ls (by omega) (by omega) (by intro k hk; rcases Nat.lt_or_ge k i with h | h; exact hno k h; have e9 : k = i := (by omega); subst e9; first | exact (sk_tg (by omega)).2 | (unfold eOn onS; unfold eCr at *; omega)) hP hD hS hl9
                    · have c_21 : py.toInt < (Y (nxt n i)).toInt := zc_nle rfl rfl c_21
                      refine lv_iconst (v := 1) hx hb dX7_where_213 (by decide) ?_
                      refine lv_goto (tgt := 218) hx hb dX7_where_214 (by decide) ?_
                      refine lv_icmp_eq (tgt := 266) hx hb dX7_where_218 (by decide) (fun c_32 => ?_) (fun c_32 => ?_)
                      · have c_32 : 1 = 1 := zc_eq (by decide) (by decide) c_32
                        refine lv_iinc (v := nI (i + 1)) (lv' := [(4, .int (nI (i + 1))), (6, .int (iI (eCr n X Y i px.toInt py.toInt))), (5, .int (nI (nxt n i))), (3, .int (pI (par2 (eTg n X Y px.toInt py.toInt) i))), (0, .ref r), (1, .int px), (2, .int py)]) hx hb dX7_where_266 hl (k := 2) rfl (nI_add i 1) (by decide) rfl (fun ls hl => ?_)
                        refine lv_goto (tgt := 5) hx hb dX7_where_269 (by decide) ?_
                        have hl9 := lv_sub hl [0, 3, 4, 5, 6] rfl
                        have e9_3 : pI (par2 (eTg n X Y px.toInt py.toInt) (i + 1)) = (pI (par2 (eTg n X Y px.toInt py.toInt) i) : Int32) := by first | exact zp_iff (par2_n (sk_tg (by omega)).1) | exact zp_iff (par2_n (by unfold eTg; omega)) | exact zp_t ((par2_y (by unfold eTg; omega)).mpr (by assumption)) | exact zp_f (fun q => (par2_y (by unfold eTg; omega)).mp q (by assumption))
                        have hl9 : lv_has ls 7 [(4, .int (nI (i + 1))), (3, .int (pI (par2 (eTg n X Y px.toInt py.toInt) (i + 1)))), (0, .ref r), (1, .int px), (2, .int py)] := by rw [e9_3]; exact hl9
                        exact ih_5 (i + 1) H locs ls (by omega) (by omega) (by intro k hk; rcases Nat.lt_or_ge k i with h | h; exact hno k h; have e9 : k = i := (by omega); subst e9; first | exact (sk_tg (by omega)).2 | (unfold eOn onS; unfold eCr at *; omega)) hP hD hS hl9
                      · exact absurd (by decide) c_32
                · have c_7 : (eCr n X Y i px.toInt py.toInt) = 0 := zc_eq (iI_toInt (by omega)) (by decide) c_7
                  refine lv_aload_n hx hb dX7_where_162 rfl (lv_at hl 4 rfl) ?_
                  refine va_get (D := (dC, dI)) (ci := 6) (v := .ref rx) (C := RX7) (T := TX7) (N := 4) hx hb hts inX7 hown hK hP 0 rfl rfl 0 (by decide) (hts _ mw_161) (fun _ h9 => h9) rfl dX7_where_163 ?_
                  refine lv_iload hx hb dX7_where_166 (lv_at hl 2 rfl) ?_
                  refine z_iald hx hb hK hP 1 0 rfl rfl (e := i) rfl (by omega) (by omega) dX7_where_168 ?_
                  refine lv_iload_n hx hb dX7_where_169 rfl (lv_at hl 5 rfl) ?_
                  refine lv_icmp_le (tgt := 184) hx hb dX7_where_170 (by decide) (fun c_33 => ?_) (fun c_33 => ?_)
                  · have c_33 : (X i).toInt ≤ px.toInt := zc_le rfl rfl c_33
                    refine lv_iconst (v := 2) hx hb dX7_where_184 (by decide) ?_
                    have hP9 := hP.sub (ws' := [(r, .inr (6, [.ref rx, .ref ry, .int (nI n), .int rg])), (rx, .inl (cI, cap, .inl X)), (ry, .inl (cI, cap, .inl Y))]) [0, 1, 2] rfl
                    have hD9 := hD.sub (ws' := [(r, .inr (6, [.ref rx, .ref ry, .int (nI n), .int rg])), (rx, .inl (cI, cap, .inl X)), (ry, .inl (cI, cap, .inl Y))]) [0, 1, 2] (by decide) rfl
                    rw [hQ9]
                    exact W.iret (v := 2) hx hb hr (fun t ht hW => ⟨⟨congrArg (fun z => Outcome.returned (some (Value.int z))) (show (2 : Int32) = whr n X Y px.toInt py.toInt from (whr_2 ⟨i, by omega, by unfold eOn onS; unfold eCr at *; omega⟩).symm), by rw [ht]; exact hP9, hD9⟩, hS.F ht⟩) hS.2.2 dX7_where_185
                  · have c_33 : px.toInt < (X i).toInt := zc_nle rfl rfl c_33
                    refine lv_aload_n hx hb dX7_where_173 rfl (lv_at hl 4 rfl) ?_
                    refine va_get (D := (dC, dI)) (ci := 6) (v := .ref rx) (C := RX7) (T := TX7) (N := 4) hx hb hts inX7 hown hK hP 0 rfl rfl 0 (by decide) (hts _ mw_161) (fun _ h9 => h9) rfl dX7_where_174 ?_
                    refine lv_iload hx hb dX7_where_177 (lv_at hl 1 rfl) ?_
                    refine z_iald hx hb hK hP 1 0 rfl rfl (e := nxt n i) rfl (by omega) (by omega) dX7_where_179 ?_
                    refine lv_iload_n hx hb dX7_where_180 rfl (lv_at hl 5 rfl) ?_
                    refine lv_icmp_gt (tgt := 186) hx hb dX7_where_181 (by decide) (fun c_34 => ?_) (fun c_34 => ?_)
                    · have c_34 : px.toInt < (X (nxt n i)).toInt := zc_lt rfl rfl c_34
                      refine lv_aload_n hx hb dX7_where_186 rfl (lv_at hl 4 rfl) ?_
                      refine va_get (D := (dC, dI)) (ci := 6) (v := .ref ry) (C := RX7) (T := TX7) (N := 4) hx hb hts inX7 hown hK hP 0 rfl rfl 1 (by decide) (hts _ mw_168) (fun _ h9 => h9) rfl dX7_where_187 ?_
                      refine lv_iload hx hb dX7_where_190 (lv_at hl 2 rfl) ?_
                      refine z_iald hx hb hK hP 2 0 rfl rfl (e := i) rfl (by omega) (by omega) dX7_where_192 ?_
                      refine lv_iload_n hx hb dX7_where_193 rfl (lv_at hl 6 rfl) ?_
                      refine lv_icmp_le (tgt := 201) hx hb dX7_where_194 (by decide) (fun c_35 => ?_) (fun c_35 => ?_)
                      · have c_35 : (Y i).toInt ≤ py.toInt := zc_le rfl rfl c_35
                        refine lv_iconst (v := 0) hx hb dX7_where_201 (by decide) ?_
                        refine lv_aload_n hx hb dX7_where_202 rfl (lv_at hl 4 rfl) ?_
                        refine va_get (D := (dC, dI)) (ci := 6) (v := .ref ry) (C := RX7) (T := TX7) (N := 4) hx hb hts inX7 hown hK hP 0 rfl rfl 1 (by decide) (hts _ mw_168) (fun _ h9 => h9) rfl dX7_where_203 ?_
                        refine lv_iload hx hb dX7_where_206 (lv_at hl 1 rfl) ?_
                        refine z_iald hx hb hK hP 2 0 rfl rfl (e := nxt n i) rfl (by omega) (by omega) dX7_where_208 ?_
                        refine lv_iload_n hx hb dX7_where_209 rfl (lv_at hl 6 rfl) ?_
                        refine lv_icmp_le (tgt := 217) hx hb dX7_where_210 (by decide) (fun c_36 => ?_) (fun c_36 => ?_)
                        · have c_36 : (Y (nxt n i)).toInt ≤ py.toInt := zc_le rfl rfl c_36
                          refine lv_iconst (v := 0) hx hb dX7_where_217 (by decide) ?_
                          refine lv_icmp_eq (tgt := 266) hx hb dX7_where_218 (by decide) (fun c_37 => ?_) (fun c_37 => ?_)
                          · have c_37 : 0 = 0 := zc_eq (by decide) (by decide) c_37
                            refine lv_iinc (v := nI (i + 1)) (lv' := [(4, .int (nI (i + 1))), (6, .int (iI (eCr n X Y i px.toInt py.toInt))), (5, .int (nI (nxt n i))), (3, .int (pI (par2 (eTg n X Y px.toInt py.toInt) i))), (0, .ref r), (1, .int px), (2, .int py)]) hx hb dX7_where_266 hl (k := 2) rfl (nI_add i 1) (by decide) rfl (fun ls hl => ?_)
                            refine lv_goto (tgt := 5) hx hb dX7_where_269 (by decide) ?_
                            have hl9 := lv_sub hl [0, 3, 4, 5, 6] rfl
                            have e9_3 : pI (par2 (eTg n X Y px.toInt py.toInt) (i + 1)) = (pI (par2 (eTg n X Y px.toInt py.toInt) i) : Int32) := by first | exact zp_iff (par2_n (sk_tg (by omega)).1) | exact zp_iff (par2_n (by unfold eTg; omega)) | exact zp_t ((par2_y (by unfold eTg; omega)).mpr (by assumption)) | exact zp_f (fun q => (par2_y (by unfold eTg; omega)).mp q (by assumption))
                            have hl9 : lv_has ls 7 [(4, .int (nI (i + 1))), (3, .int (pI (par2 (eTg n X Y px.toInt py.toInt) (i + 1)))), (0, .ref r), (1, .int px), (2, .int py)] := by rw [e9_3]; exact hl9
                            exact ih_5 (i + 1) H locs ls (by omega) (by omega) (by intro k hk; rcases Nat.lt_or_ge k i with h | h; exact hno k h; have e9 : k = i := (by omega); subst e9; first | exact (sk_tg (by omega)).2 | (unfold eOn onS; unfold eCr at *; omega)) hP hD hS hl9
                          · exact absurd (by decide) c_37
                        · have c_36 : py.toInt < (Y (nxt n i)).toInt := zc_nle rfl rfl c_36
                          refine lv_iconst (v := 1) hx hb dX7_where_213 (by decide) ?_
                          refine lv_goto (tgt := 218) hx hb dX7_where_214 (by decide) ?_
                          refine lv_icmp_eq (tgt := 266) hx hb dX7_where_218 (by decide) (fun c_38 => ?_) (fun c_38 => ?_)
                          · exact absurd c_38 (by decide)
                          · have c_38 : ¬ 0 = 1 := zc_ne (by decide) (by decide) c_38
                            refine lv_iload hx hb dX7_where_221 (lv_at hl 0 rfl) ?_
                            refine lv_if_le (tgt := 230) hx hb dX7_where_223 (by decide) (fun c_39 => ?_) (fun c_39 => ?_)
                            · have c_39 : (eCr n X Y i px.toInt py.toInt) ≤ 0 := zc_le (iI_toInt (by omega)) (by decide) c_39
                              refine lv_iconst (v := 0) hx hb dX7_where_230 (by decide) ?_
                              refine lv_aload_n hx hb dX7_where_231 rfl (lv_at hl 4 rfl) ?_
                              refine va_get (D := (dC, dI)) (ci := 6) (v := .ref ry) (C := RX7) (T := TX7) (N := 4) hx hb hts inX7 hown hK hP 0 rfl rfl 1 (by decide) (hts _ mw_168) (fun _ h9 => h9) rfl dX7_where_232 ?_
                              refine lv_iload hx hb dX7_where_235 (lv_at hl 1 rfl) ?_
                              refine z_iald hx hb hK hP 2 0 rfl rfl (e := nxt n i) rfl (by omega) (by omega) dX7_where_237 ?_
                              refine lv_aload_n hx hb dX7_where_238 rfl (lv_at hl 4 rfl) ?_
                              refine va_get (D := (dC, dI)) (ci := 6) (v := .ref ry) (C := RX7) (T := TX7) (N := 4) hx hb hts inX7 hown hK hP 0 rfl rfl 1 (by decide) (hts _ mw_168) (fun _ h9 => h9) rfl dX7_where_239 ?_
                              refine lv_iload hx hb dX7_where_242 (lv_at hl 2 rfl) ?_
                              refine z_iald hx hb hK hP 2 0 rfl rfl (e := i) rfl (by omega) (by omega) dX7_where_244 ?_
                              refine lv_icmp_le (tgt := 252) hx hb dX7_where_245 (by decide) (fun c_40 => ?_) (fun c_40 => ?_)
                              · have c_40 : (Y (nxt n i)).toInt ≤ (Y i).toInt := zc_le rfl rfl c_40
                                refine lv_iconst (v := 0) hx hb dX7_where_252 (by decide) ?_
                                refine lv_icmp_ne (tgt := 266) hx hb dX7_where_253 (by decide) (fun c_41 => ?_) (fun c_41 => ?_)
                                · exact absurd (by decide) c_41
                                · have c_41 : 0 = 0 := zc_eq (by decide) (by decide) c_41
                                  refine lv_iload_n hx hb dX7_where_256 rfl (lv_at hl 3 rfl) ?_
                                  refine lv_if_ne (tgt := 264) hx hb dX7_where_257 (by decide) (fun c_42 => ?_) (fun c_42 => ?_)
                                  · have c_42 : par2 (eTg n X Y px.toInt py.toInt) i := zp_1 c_42
                                    refine lv_iconst (v := 0) hx hb dX7_where_264 (by decide) ?_
                                    refine lv_istore_n (lv' := [(3, .int 0), (6, .int (iI (eCr n X Y i px.toInt py.toInt))), (5, .int (nI (nxt n i))), (4, .int (nI i)), (0, .ref r), (1, .int px), (2, .int py)]) hx hb dX7_where_265 rfl hl (by decide) rfl (fun ls hl => ?_)
                                    refine lv_iinc (v := nI (i + 1)) (lv' := [(4, .int (nI (i + 1))), (3, .int 0), (6, .int (iI (eCr n X Y i px.toInt py.toInt))), (5, .int (nI (nxt n i))), (0, .ref r), (1, .int px), (2, .int py)]) hx hb dX7_where_266 hl (k := 3) rfl (nI_add i 1) (by decide) rfl (fun ls hl => ?_)
                                    refine lv_goto (tgt := 5) hx hb dX7_where_269 (by decide) ?_
                                    have hl9 := lv_sub hl [0, 1, 4, 5, 6] rfl
                                    have e9_3 : pI (par2 (eTg n X Y px.toInt py.toInt) (i + 1)) = (0 : Int32) := by first | exact zp_iff (par2_n (sk_tg (by omega)).1) | exact zp_iff (par2_n (by unfold eTg; omega)) | exact zp_t ((par2_y (by unfold eTg; omega)).mpr (by assumption)) | exact zp_f (fun q => (par2_y (by unfold eTg; omega)).mp q (by assumption))
                                    have hl9 : lv_has ls 7 [(4, .int (nI (i + 1))), (3, .int (pI (par2 (eTg n X Y px.toInt py.toInt) (i + 1)))), (0, .ref r), (1, .int px), (2, .int py)] := by rw [e9_3]; exact hl9
                                    exact ih_5 (i + 1) H locs ls (by omega) (by omega) (by intro k hk; rcases Nat.lt_or_ge k i with h | h; exact hno k h; have e9 : k = i := (by omega); subst e9; first | exact (sk_tg (by omega)).2 | (unfold eOn onS; unfold eCr at *; omega)) hP hD hS hl9
                                  · have c_42 : ¬ (par2 (eTg n X Y px.toInt py.toInt) i) := zp_0 c_42
                                    refine lv_iconst (v := 1) hx hb dX7_where_260 (by decide) ?_
                                    refine lv_goto (tgt := 265) hx hb dX7_where_261 (by decide) ?_
                                    refine lv_istore_n (lv' := [(3, .int 1), (6, .int (iI (eCr n X Y i px.toInt py.toInt))), (5, .int (nI (nxt n i))), (4, .int (nI i)), (0, .ref r), (1, .int px), (2, .int py)]) hx hb dX7_where_265 rfl hl (by decide) rfl (fun ls hl => ?_)
                                    refine lv_iinc (v := nI (i + 1)) (lv' := [(4, .int (nI (i + 1))), (3, .int 1), (6, .int (iI (eCr n X Y i px.toInt py.toInt))), (5, .int (nI (nxt n i))), (0, .ref r), (1, .int px), (2, .int py)]) hx hb dX7_where_266 hl (k := 3) rfl (nI_add i 1) (by decide) rfl (fun ls hl => ?_)
                                    refine lv_goto (tgt := 5) hx hb dX7_where_269 (by decide) ?_
                                    have hl9 := lv_sub hl [0, 1, 4, 5, 6] rfl
                                    have e9_3 : pI (par2 (eTg n X Y px.toInt py.toInt) (i + 1)) = (1 : Int32) := by first | exact zp_iff (par2_n (sk_tg (by omega)).1) | exact zp_iff (par2_n (by unfold eTg; omega)) | exact zp_t ((par2_y (by unfold eTg; omega)).mpr (by assumption)) | exact zp_f (fun q => (par2_y (by unfold eTg; omega)).mp q (by assumption))
                                    have hl9 : lv_has ls 7 [(4, .int (nI (i + 1))), (3, .int (pI (par2 (eTg n X Y px.toInt py.toInt) (i + 1)))), (0, .ref r), (1, .int px), (2, .int py)] := by rw [e9_3]; exact hl9
                                    exact ih_5 (i + 1) H locs ls (by omega) (by omega) (by intro k hk; rcases Nat.lt_or_ge k i with h | h; exact hno k h; have e9 : k = i := (by omega); subst e9; first | exact (sk_tg (by omega)).2 | (unfold eOn onS; unfold eCr at *; omega)) hP hD hS hl9
                              · have c_40 : (Y i).toInt < (Y (nxt n i)).toInt := zc_nle rfl rfl c_40
                                refine lv_iconst (v := 1) hx hb dX7_where_248 (by decide) ?_
                                refine lv_goto (tgt := 253) hx hb dX7_where_249 (by decide) ?_
                                refine lv_icmp_ne (tgt := 266) hx hb dX7_where_253 (by decide) (fun c_43 => ?_) (fun c_43 => ?_)
                                · have c_43 : ¬ 0 = 1 := zc_ne (by decide) (by decide) c_43
                                  refine lv_iinc (v := nI (i + 1)) (lv' := [(4, .int (nI (i + 1))), (6, .int (iI (eCr n X Y i px.toInt py.toInt))), (5, .int (nI (nxt n i))), (3, .int (pI (par2 (eTg n X Y px.toInt py.toInt) i))), (0, .ref r), (1, .int px), (2, .int py)]) hx hb dX7_where_266 hl (k := 2) rfl (nI_add i 1) (by decide) rfl (fun ls hl => ?_)
                                  refine lv_goto (tgt := 5) hx hb dX7_where_269 (by decide) ?_
                                  have hl9 := lv_sub hl [0, 3, 4, 5, 6] rfl
                                  have e9_3 : pI (par2 (eTg n X Y px.toInt py.toInt) (i + 1)) = (pI (par2 (eTg n X Y px.toInt py.toInt) i) : Int32) := by first | exact zp_iff (par2_n (sk_tg (by omega)).1) | exact zp_iff (par2_n (by unfold eTg; omega)) | exact zp_t ((par2_y (by unfold eTg; omega)).mpr (by assumption)) | exact zp_f (fun q => (par2_y (by unfold eTg; omega)).mp q (by assumption))
                                  have hl9 : lv_has ls 7 [(4, .int (nI (i + 1))), (3, .int (pI (par2 (eTg n X Y px.toInt py.toInt) (i + 1)))), (0, .ref r), (1, .int px), (2, .int py)] := by rw [e9_3]; exact hl9
                                  exact ih_5 (i + 1) H locs ls (by omega) (by omega) (by intro k hk; rcases Nat.lt_or_ge k i with h | h; exact hno k h; have e9 : k = i := (by omega); subst e9; first | exact (sk_tg (by omega)).2 | (unfold eOn onS; unfold eCr at *; omega)) hP hD hS hl9
                                · exact absurd c_43 (by decide)
                            · have c_39 : 0 < (eCr n X Y i px.toInt py.toInt) := zc_nle (iI_toInt (by omega)) (by decide) c_39
                              refine lv_iconst (v := 1) hx hb dX7_where_226 (by decide) ?_
                              refine lv_goto (tgt := 231) hx hb dX7_where_227 (by decide) ?_
                              refine lv_aload_n hx hb dX7_where_231 rfl (lv_at hl 4 rfl) ?_
                              refine va_get (D := (dC, dI)) (ci := 6) (v := .ref ry) (C := RX7) (T := TX7) (N := 4) hx hb hts inX7 hown hK hP 0 rfl rfl 1 (by decide) (hts _ mw_168) (fun _ h9 => h9) rfl dX7_where_232 ?_
                              refine lv_iload hx hb dX7_where_235 (lv_at hl 1 rfl) ?_
                              refine z_iald hx hb hK hP 2 0 rfl rfl (e := nxt n i) rfl (by omega) (by omega) dX7_where_237 ?_
                              refine lv_aload_n hx hb dX7_where_238 rfl (lv_at hl 4 rfl) ?_
                              refine va_get (D := (dC, dI)) (ci := 6) (v := .ref ry) (C := RX7) (T := TX7) (N := 4) hx hb hts inX7 hown hK hP 0 rfl rfl 1 (by decide) (hts _ mw_168) (fun _ h9 => h9) rfl dX7_where_239 ?_
                              refine lv_iload hx hb dX7_where_242 (lv_at hl 2 rfl) ?_
                              refine z_iald hx hb hK hP 2 0 rfl rfl (e := i) rfl (by omega) (by omega) dX7_where_244 ?_
                              refine lv_icmp_le (tgt := 252) hx hb dX7_where_245 (by decide) (fun c_44 => ?_) (fun c_44 => ?_)
                              · have c_44 : (Y (nxt n i)).toInt ≤ (Y i).toInt := zc_le rfl rfl c_44
                                refine lv_iconst (v := 0) hx hb dX7_where_252 (by decide) ?_
                                refine lv_icmp_ne (tgt := 266) hx hb dX7_where_253 (by decide) (fun c_45 => ?_) (fun c_45 => ?_)
                                · have c_45 : ¬ 1 = 0 := zc_ne (by decide) (by decide) c_45
                                  refine lv_iinc (v := nI (i + 1)) (lv' := [(4, .int (nI (i + 1))), (6, .int (iI (eCr n X Y i px.toInt py.toInt))), (5, .int (nI (nxt n i))), (3, .int (pI (par2 (eTg n X Y px.toInt py.toInt) i))), (0, .ref r), (1, .int px), (2, .int py)]) hx hb dX7_where_266 hl (k := 2) rfl (nI_add i 1) (by decide) rfl (fun ls hl => ?_)
                                  refine lv_goto (tgt := 5) hx hb dX7_where_269 (by decide) ?_
                                  have hl9 := lv_sub hl [0, 3, 4, 5, 6] rfl
                                  have e9_3 : pI (par2 (eTg n X Y px.toInt py.toInt) (i + 1)) = (pI (par2 (eTg n X Y px.toInt py.toInt) i) : Int32) := by first | exact zp_iff (par2_n (sk_tg (by omega)).1) | exact zp_iff (par2_n (by unfold eTg; omega)) | exact zp_t ((par2_y (by unfold eTg; omega)).mpr (by assumption)) | exact zp_f (fun q => (par2_y (by unfold eTg; omega)).mp q (by assumption))
                                  have hl9 : lv_has ls 7 [(4, .int (nI (i + 1))), (3, .int (pI (par2 (eTg n X Y px.toInt py.toInt) (i + 1)))), (0, .ref r), (1, .int px), (2, .int py)] := by rw [e9_3]; exact hl9
                                  exact ih_5 (i + 1) H locs ls (by omega) (by omega) (by intro k hk; rcases Nat.lt_or_ge k i with h | h; exact hno k h; have e9 : k = i := (by omega); subst e9; first | exact (sk_tg (by omega)).2 | (unfold eOn onS; unfold eCr at *; omega)) hP hD hS hl9
                                · exact absurd c_45 (by decide)
                              · have c_44 : (Y i).toInt < (Y (nxt n i)).toInt := zc_nle rfl rfl c_44
                                refine lv_iconst (v := 1) hx hb dX7_where_248 (by decide) ?_
                                refine lv_goto (tgt := 253) hx hb dX7_where_249 (by decide) ?_
                                refine lv_icmp_ne (tgt := 266) hx hb dX7_where_253 (by decide) (fun c_46 => ?_) (fun c_46 => ?_)
                                · exact absurd (by decide) c_46
                                · have c_46 : 1 = 1 := zc_eq (by decide) (by decide) c_46
                                  refine lv_iload_n hx hb dX7_where_256 rfl (lv_at hl 3 rfl) ?_
                                  refine lv_if_ne (tgt := 264) hx hb dX7_where_257 (by decide) (fun c_47 => ?_) (fun c_47 => ?_)
                                  · have c_47 : par2 (eTg n X Y px.toInt py.toInt) i := zp_1 c_47
                                    refine lv_iconst (v := 0) hx hb dX7_where_264 (by decide) ?_
                                    refine lv_istore_n (lv' := [(3, .int 0), (6, .int (iI (eCr n X Y i px.toInt py.toInt))), (5, .int (nI (nxt n i))), (4, .int (nI i)), (0, .ref r), (1, .int px), (2, .int py)]) hx hb dX7_where_265 rfl hl (by decide) rfl (fun ls hl => ?_)
                                    refine lv_iinc (v := nI (i + 1)) (lv' := [(4, .int (nI (i + 1))), (3, .int 0), (6, .int (iI (eCr n X Y i px.toInt py.toInt))), (5, .int (nI (nxt n i))), (0, .ref r), (1, .int px), (2, .int py)]) hx hb dX7_where_266 hl (k := 3) rfl (nI_add i 1) (by decide) rfl (fun ls hl => ?_)
                                    refine lv_goto (tgt := 5) hx hb dX7_where_269 (by decide) ?_
                                    have hl9 := lv_sub hl [0, 1, 4, 5, 6] rfl
                                    have e9_3 : pI (par2 (eTg n X Y px.toInt py.toInt) (i + 1)) = (0 : Int32) := by first | exact zp_iff (par2_n (sk_tg (by omega)).1) | exact zp_iff (par2_n (by unfold eTg; omega)) | exact zp_t ((par2_y (by unfold eTg; omega)).mpr (by assumption)) | exact zp_f (fun q => (par2_y (by unfold eTg; omega)).mp q (by assumption))
                                    have hl9 : lv_has ls 7 [(4, .int (nI (i + 1))), (3, .int (pI (par2 (eTg n X Y px.toInt py.toInt) (i + 1)))), (0, .ref r), (1, .int px), (2, .int py)] := by rw [e9_3]; exact hl9
                                    exact ih_5 (i + 1) H locs ls (by omega) (by omega) (by intro k hk; rcases Nat.lt_or_ge k i with h | h; exact hno k h; have e9 : k = i := (by omega); subst e9; first | exact (sk_tg (by omega)).2 | (unfold eOn onS; unfold eCr at *; omega)) hP hD hS hl9
                                  · have c_47 : ¬ (par2 (eTg n X Y px.toInt py.toInt) i) := zp_0 c_47
                                    refine lv_iconst (v := 1) hx hb dX7_where_260 (by decide) ?_
                                    refine lv_goto (tgt := 265) hx hb dX7_where_261 (by decide) ?_
                                    refine lv_istore_n (lv' := [(3, .int 1), (6, .int (iI (eCr n X Y i px.toInt py.toInt))), (5, .int (nI (nxt n i))), (4, .int (nI i)), (0, .ref r), (1, .int px), (2, .int py)]) hx hb dX7_where_265 rfl hl (by decide) rfl (fun ls hl => ?_)
                                    refine lv_iinc (v := nI (i + 1)) (lv' := [(4, .int (nI (i + 1))), (3, .int 1), (6, .int (iI (eCr n X Y i px.toInt py.toInt))), (5, .int (nI (nxt n i))), (0, .ref r), (1, .int px), (2, .int py)]) hx hb dX7_where_266 hl (k := 3) rfl (nI_add i 1) (by decide) rfl (fun ls hl => ?_)
                                    refine lv_goto (tgt := 5) hx hb dX7_where_269 (by decide) ?_
                                    have hl9 := lv_sub hl [0, 1, 4, 5, 6] rfl
                                    have e9_3 : pI (par2 (eTg n X Y px.toInt py.toInt) (i + 1)) = (1 : Int32) := by first | exact zp_iff (par2_n (sk_tg (by omega)).1) | exact zp_iff (par2_n (by unfold eTg; omega)) | exact zp_t ((par2_y (by unfold eTg; omega)).mpr (by assumption)) | exact zp_f (fun q => (par2_y (by unfold eTg; omega)).mp q (by assumption))
                                    have hl9 : lv_has ls 7 [(4, .int (nI (i + 1))), (3, .int (pI (par2 (eTg n X Y px.toInt py.toInt) (i + 1)))), (0, .ref r), (1, .int px), (2, .int py)] := by rw [e9_3]; exact hl9
                                    exact ih_5 (i + 1) H locs ls (by omega) (by omega) (by intro k hk; rcases Nat.lt_or_ge k i with h | h; exact hno k h; have e9 : k = i := (by omega); subst e9; first | exact (sk_tg (by omega)).2 | (unfold eOn onS; unfold eCr at *; omega)) hP hD hS hl9
                      · have c_35 : py.toInt < (Y i).toInt := zc_nle rfl rfl c_35
                        refine lv_iconst (v := 1) hx hb dX7_where_197 (by decide) ?_
                        refine lv_goto (tgt := 202) hx hb dX7_where_198 (by decide) ?_
                        refine lv_aload_n hx hb dX7_where_202 rfl (lv_at hl 4 rfl) ?_
                        refine va_get (D := (dC, dI)) (ci := 6) (v := .ref ry) (C := RX7) (T := TX7) (N := 4) hx hb hts inX7 hown hK hP 0 rfl rfl 1 (by decide) (hts _ mw_168) (fun _ h9 => h9) rfl dX7_where_203 ?_
                        refine lv_iload hx hb dX7_where_206 (lv_at hl 1 rfl) ?_
                        refine z_iald hx hb hK hP 2 0 rfl rfl (e := nxt n i) rfl (by omega) (by omega) dX7_where_208 ?_
                        refine lv_iload_n hx hb dX7_where_209 rfl (lv_at hl 6 rfl) ?_
                        refine lv_icmp_le (tgt := 217) hx hb dX7_where_210 (by decide) (fun c_48 => ?_) (fun c_48 => ?_)
                        · have c_48 : (Y (nxt n i)).toInt ≤ py.toInt := zc_le rfl rfl c_48
                          refine lv_iconst (v := 0) hx hb dX7_where_217 (by decide) ?_
                          refine lv_icmp_eq (tgt := 266) hx hb dX7_where_218 (by decide) (fun c_49 => ?_) (fun c_49 => ?_)
                          · exact absurd c_49 (by decide)
                          · have c_49 : ¬ 1 = 0 := zc_ne (by decide) (by decide) c_49
                            refine lv_iload hx hb dX7_where_221 (lv_at hl 0 rfl) ?_
                            refine lv_if_le (tgt := 230) hx hb dX7_where_223 (by decide) (fun c_50 => ?_) (fun c_50 => ?_)
                            · have c_50 : (eCr n X Y i px.toInt py.toInt) ≤ 0 := zc_le (iI_toInt (by omega)) (by decide) c_50
                              refine lv_iconst (v := 0) hx hb dX7_where_230 (by decide) ?_
                              refine lv_aload_n hx hb dX7_where_231 rfl (lv_at hl 4 rfl) ?_
                              refine va_get (D := (dC, dI)) (ci := 6) (v := .ref ry) (C := RX7) (T := TX7) (N := 4) hx hb hts inX7 hown hK hP 0 rfl rfl 1 (by decide) (hts _ mw_168) (fun _ h9 => h9) rfl dX7_where_232 ?_
                              refine lv_iload hx hb dX7_where_235 (lv_at hl 1 rfl) ?_
                              refine z_iald hx hb hK hP 2 0 rfl rfl (e := nxt n i) rfl (by omega) (by omega) dX7_where_237 ?_
                              refine lv_aload_n hx hb dX7_where_238 rfl (lv_at hl 4 rfl) ?_
                              refine va_get (D := (dC, dI)) (ci := 6) (v := .ref ry) (C := RX7) (T := TX7) (N := 4) hx hb hts inX7 hown hK hP 0 rfl rfl 1 (by decide) (hts _ mw_168) (fun _ h9 => h9) rfl dX7_where_239 ?_
                              refine lv_iload hx hb dX7_where_242 (lv_at hl 2 rfl) ?_
                              refine z_iald hx hb hK hP 2 0 rfl rfl (e := i) rfl (by omega) (by omega) dX7_where_244 ?_
                              refine lv_icmp_le (tgt := 252) hx hb dX7_where_245 (by decide) (fun c_51 => ?_) (fun c_51 => ?_)
                              · have c_51 : (Y (nxt n i)).toInt ≤ (Y i).toInt := zc_le rfl rfl c_51
                                refine lv_iconst (v := 0) hx hb dX7_where_252 (by decide) ?_
                                refine lv_icmp_ne (tgt := 266) hx hb dX7_where_253 (by decide) (fun c_52 => ?_) (fun c_52 => ?_)
                                · exact absurd (by decide) c_52
                                · have c_52 : 0 = 0 := zc_eq (by decide) (by decide) c_52
                                  refine lv_iload_n hx hb dX7_where_256 rfl (lv_at hl 3 rfl) ?_
                                  refine lv_if_ne (tgt := 264) hx hb dX7_where_257 (by decide) (fun c_53 => ?_) (fun c_53 => ?_)
                                  · have c_53 : par2 (eTg n X Y px.toInt py.toInt) i := zp_1 c_53
                                    refine lv_iconst (v := 0) hx hb dX7_where_264 (by decide) ?_
                                    refine lv_istore_n (lv' := [(3, .int 0), (6, .int (iI (eCr n X Y i px.toInt py.toInt))), (5, .int (nI (nxt n i))), (4, .int (nI i)), (0, .ref r), (1, .int px), (2, .int py)]) hx hb dX7_where_265 rfl hl (by decide) rfl (fun ls hl => ?_)
                                    refine lv_iinc (v := nI (i + 1)) (lv' := [(4, .int (nI (i + 1))), (3, .int 0), (6, .int (iI (eCr n X Y i px.toInt py.toInt))), (5, .int (nI (nxt n i))), (0, .ref r), (1, .int px), (2, .int py)]) hx hb dX7_where_266 hl (k := 3) rfl (nI_add i 1) (by decide) rfl (fun ls hl => ?_)
                                    refine lv_goto (tgt := 5) hx hb dX7_where_269 (by decide) ?_
                                    have hl9 := lv_sub hl [0, 1, 4, 5, 6] rfl
                                    have e9_3 : pI (par2 (eTg n X Y px.toInt py.toInt) (i + 1)) = (0 : Int32) := by first | exact zp_iff (par2_n (sk_tg (by omega)).1) | exact zp_iff (par2_n (by unfold eTg; omega)) | exact zp_t ((par2_y (by unfold eTg; omega)).mpr (by assumption)) | exact zp_f (fun q => (par2_y (by unfold eTg; omega)).mp q (by assumption))
                                    have hl9 : lv_has ls 7 [(4, .int (nI (i + 1))), (3, .int (pI (par2 (eTg n X Y px.toInt py.toInt) (i + 1)))), (0, .ref r), (1, .int px), (2, .int py)] := by rw [e9_3]; exact hl9
                                    exact ih_5 (i + 1) H locs ls (by omega) (by omega) (by intro k hk; rcases Nat.lt_or_ge k i with h | h; exact hno k h; have e9 : k = i := (by omega); subst e9; first | exact (sk_tg (by omega)).2 | (unfold eOn onS; unfold eCr at *; omega)) hP hD hS hl9
                                  · have c_53 : ¬ (par2 (eTg n X Y px.toInt py.toInt) i) := zp_0 c_53
                                    refine lv_iconst (v := 1) hx hb dX7_where_260 (by decide) ?_
                                    refine lv_goto (tgt := 265) hx hb dX7_where_261 (by decide) ?_
                                    refine lv_istore_n (lv' := [(3, .int 1), (6, .int (iI (eCr n X Y i px.toInt py.toInt))), (5, .int (nI (nxt n i))), (4, .int (nI i)), (0, .ref r), (1, .int px), (2, .int py)]) hx hb dX7_where_265 rfl hl (by decide) rfl (fun ls hl => ?_)
                                    refine lv_iinc (v := nI (i + 1)) (lv' := [(4, .int (nI (i + 1))), (3, .int 1), (6, .int (iI (eCr n X Y i px.toInt py.toInt))), (5, .int (nI (nxt n i))), (0, .ref r), (1, .int px), (2, .int py)]) hx hb dX7_where_266 hl (k := 3) rfl (nI_add i 1) (by decide) rfl (fun ls hl => ?_)
                                    refine lv_goto (tgt := 5) hx hb dX7_where_269 (by decide) ?_
                                    have hl9 := lv_sub hl [0, 1, 4, 5, 6] rfl
                                    have e9_3 : pI (par2 (eTg n X Y px.toInt py.toInt) (i + 1)) = (1 : Int32) := by first | exact zp_iff (par2_n (sk_tg (by omega)).1) | exact zp_iff (par2_n (by unfold eTg; omega)) | exact zp_t ((par2_y (by unfold eTg; omega)).mpr (by assumption)) | exact zp_f (fun q => (par2_y (by unfold eTg; omega)).mp q (by assumption))
                                    have hl9 : lv_has ls 7 [(4, .int (nI (i + 1))), (3, .int (pI (par2 (eTg n X Y px.toInt py.toInt) (i + 1)))), (0, .ref r), (1, .int px), (2, .int py)] := by rw [e9_3]; exact hl9
                                    exact ih_5 (i + 1) H locs ls (by omega) (by omega) (by intro k hk; rcases Nat.lt_or_ge k i with h | h; exact hno k h; have e9 : k = i := (by omega); subst e9; first | exact (sk_tg (by omega)).2 | (unfold eOn onS; unfold eCr at *; omega)) hP hD hS hl9
                              · have c_51 : (Y i).toInt < (Y (nxt n i)).toInt := zc_nle rfl rfl c_51
                                refine lv_iconst (v := 1) hx hb dX7_where_248 (by decide) ?_
                                refine lv_goto (tgt := 253) hx hb dX7_where_249 (by decide) ?_
                                refine lv_icmp_ne (tgt := 266) hx hb dX7_where_253 (by decide) (fun c_54 => ?_) (fun c_54 => ?_)
                                · have c_54 : ¬ 0 = 1 := zc_ne (by decide) (by decide) c_54
                                  refine lv_iinc (v := nI (i + 1)) (lv' := [(4, .int (nI (i + 1))), (6, .int (iI (eCr n X Y i px.toInt py.toInt))), (5, .int (nI (nxt n i))), (3, .int (pI (par2 (eTg n X Y px.toInt py.toInt) i))), (0, .ref r), (1, .int px), (2, .int py)]) hx hb dX7_where_266 hl (k := 2) rfl (nI_add i 1) (by decide) rfl (fun ls hl => ?_)
                                  refine lv_goto (tgt := 5) hx hb dX7_where_269 (by decide) ?_
                                  have hl9 := lv_sub hl [0, 3, 4, 5, 6] rfl
                                  have e9_3 : pI (par2 (eTg n X Y px.toInt py.toInt) (i + 1)) = (pI (par2 (eTg n X Y px.toInt py.toInt) i) : Int32) := by first | exact zp_iff (par2_n (sk_tg (by omega)).1) | exact zp_iff (par2_n (by unfold eTg; omega)) | exact zp_t ((par2_y (by unfold eTg; omega)).mpr (by assumption)) | exact zp_f (fun q => (par2_y (by unfold eTg; omega)).mp q (by assumption))
                                  have hl9 : lv_has ls 7 [(4, .int (nI (i + 1))), (3, .int (pI (par2 (eTg n X Y px.toInt py.toInt) (i + 1)))), (0, .ref r), (1, .int px), (2, .int py)] := by rw [e9_3]; exact hl9
                                  exact ih_5 (i + 1) H locs ls (by omega) (by omega) (by intro k hk; rcases Nat.lt_or_ge k i with h | h; exact hno k h; have e9 : k = i := (by omega); subst e9; first | exact (sk_tg (by omega)).2 | (unfold eOn onS; unfold eCr at *; omega)) hP hD hS hl9
                                · exact absurd c_54 (by decide)
                            · have c_50 : 0 < (eCr n X Y i px.toInt py.toInt) := zc_nle (iI_toInt (by omega)) (by decide) c_50
                              refine lv_iconst (v := 1) hx hb dX7_where_226 (by decide) ?_
                              refine lv_goto (tgt := 231) hx hb dX7_where_227 (by decide) ?_
                              refine lv_aload_n hx hb dX7_where_231 rfl (lv_at hl 4 rfl) ?_
                              refine va_get (D := (dC, dI)) (ci := 6) (v := .ref ry) (C := RX7) (T := TX7) (N := 4) hx hb hts inX7 hown hK hP 0 rfl rfl 1 (by decide) (hts _ mw_168) (fun _ h9 => h9) rfl dX7_where_232 ?_
                              refine lv_iload hx hb dX7_where_235 (lv_at hl 1 rfl) ?_
                              refine z_iald hx hb hK hP 2 0 rfl rfl (e := nxt n i) rfl (by omega) (by omega) dX7_where_237 ?_
                              refine lv_aload_n hx hb dX7_where_238 rfl (lv_at hl 4 rfl) ?_
                              refine va_get (D := (dC, dI)) (ci := 6) (v := .ref ry) (C := RX7) (T := TX7) (N := 4) hx hb hts inX7 hown hK hP 0 rfl rfl 1 (by decide) (hts _ mw_168) (fun _ h9 => h9) rfl dX7_where_239 ?_
                              refine lv_iload hx hb dX7_where_242 (lv_at hl 2 rfl) ?_
                              refine z_iald hx hb hK hP 2 0 rfl rfl (e := i) rfl (by omega) (by omega) dX7_where_244 ?_
                              refine lv_icmp_le (tgt := 252) hx hb dX7_where_245 (by decide) (fun c_55 => ?_) (fun c_55 => ?_)
                              · have c_55 : (Y (nxt n i)).toInt ≤ (Y i).toInt := zc_le rfl rfl c_55
                                refine lv_iconst (v := 0) hx hb dX7_where_252 (by decide) ?_
                                refine lv_icmp_ne (tgt := 266) hx hb dX7_where_253 (by decide) (fun c_56 => ?_) (fun c_56 => ?_)
                                · have c_56 : ¬ 1 = 0 := zc_ne (by decide) (by decide) c_56
                                  refine lv_iinc (v := nI (i + 1)) (lv' := [(4, .int (nI (i + 1))), (6, .int (iI (eCr n X Y i px.toInt py.toInt))), (5, .int (nI (nxt n i))), (3, .int (pI (par2 (eTg n X Y px.toInt py.toInt) i))), (0, .ref r), (1, .int px), (2, .int py)]) hx hb dX7_where_266 hl (k := 2) rfl (nI_add i 1) (by decide) rfl (fun ls hl => ?_)
                                  refine lv_goto (tgt := 5) hx hb dX7_where_269 (by decide) ?_
                                  have hl9 := lv_sub hl [0, 3, 4, 5, 6] rfl
                                  have e9_3 : pI (par2 (eTg n X Y px.toInt py.toInt) (i + 1)) = (pI (par2 (eTg n X Y px.toInt py.toInt) i) : Int32) := by first | exact zp_iff (par2_n (sk_tg (by omega)).1) | exact zp_iff (par2_n (by unfold eTg; omega)) | exact zp_t ((par2_y (by unfold eTg; omega)).mpr (by assumption)) | exact zp_f (fun q => (par2_y (by unfold eTg; omega)).mp q (by assumption))
                                  have hl9 : lv_has ls 7 [(4, .int (nI (i + 1))), (3, .int (pI (par2 (eTg n X Y px.toInt py.toInt) (i + 1)))), (0, .ref r), (1, .int px), (2, .int py)] := by rw [e9_3]; exact hl9
                                  exact ih_5 (i + 1) H locs ls (by omega) (by omega) (by intro k hk; rcases Nat.lt_or_ge k i with h | h; exact hno k h; have e9 : k = i := (by omega); subst e9; first | exact (sk_tg (by omega)).2 | (unfold eOn onS; unfold eCr at *; omega)) hP hD hS hl9
                                · exact absurd c_56 (by decide)
                              · have c_55 : (Y i).toInt < (Y (nxt n i)).toInt := zc_nle rfl rfl c_55
                                refine lv_iconst (v := 1) hx hb dX7_where_248 (by decide) ?_
                                refine lv_goto (tgt := 253) hx hb dX7_where_249 (by decide) ?_
                                refine lv_icmp_ne (tgt := 266) hx hb dX7_where_253 (by decide) (fun c_57 => ?_) (fun c_57 => ?_)
                                · exact absurd (by decide) c_57
                                · have c_57 : 1 = 1 := zc_eq (by decide) (by decide) c_57
                                  refine lv_iload_n hx hb dX7_where_256 rfl (lv_at hl 3 rfl) ?_
                                  refine lv_if_ne (tgt := 264) hx hb dX7_where_257 (by decide) (fun c_58 => ?_) (fun c_58 => ?_)
                                  · have c_58 : par2 (eTg n X Y px.toInt py.toInt) i := zp_1 c_58
                                    refine lv_iconst (v := 0) hx hb dX7_where_264 (by decide) ?_
                                    refine lv_istore_n (lv' := [(3, .int 0), (6, .int (iI (eCr n X Y i px.toInt py.toInt))), (5, .int (nI (nxt n i))), (4, .int (nI i)), (0, .ref r), (1, .int px), (2, .int py)]) hx hb dX7_where_265 rfl hl (by decide) rfl (fun ls hl => ?_)
                                    refine lv_iinc (v := nI (i + 1)) (lv' := [(4, .int (nI (i + 1))), (3, .int 0), (6, .int (iI (eCr n X Y i px.toInt py.toInt))), (5, .int (nI (nxt n i))), (0, .ref r), (1, .int px), (2, .int py)]) hx hb dX7_where_266 hl (k := 3) rfl (nI_add i 1) (by decide) rfl (fun ls hl => ?_)
                                    refine lv_goto (tgt := 5) hx hb dX7_where_269 (by decide) ?_
                                    have hl9 := lv_sub hl [0, 1, 4, 5, 6] rfl
                                    have e9_3 : pI (par2 (eTg n X Y px.toInt py.toInt) (i + 1)) = (0 : Int32) := by first | exact zp_iff (par2_n (sk_tg (by omega)).1) | exact zp_iff (par2_n (by unfold eTg; omega)) | exact zp_t ((par2_y (by unfold eTg; omega)).mpr (by assumption)) | exact zp_f (fun q => (par2_y (by unfold eTg; omega)).mp q (by assumption))
                                    have hl9 : lv_has ls 7 [(4, .int (nI (i + 1))), (3, .int (pI (par2 (eTg n X Y px.toInt py.toInt) (i + 1)))), (0, .ref r), (1, .int px), (2, .int py)] := by rw [e9_3]; exact hl9
                                    exact ih_5 (i + 1) H locs ls (by omega) (by omega) (by intro k hk; rcases Nat.lt_or_ge k i with h | h; exact hno k h; have e9 : k = i := (by omega); subst e9; first | exact (sk_tg (by omega)).2 | (unfold eOn onS; unfold eCr at *; omega)) hP hD hS hl9
                                  · have c_58 : ¬ (par2 (eTg n X Y px.toInt py.toInt) i) := zp_0 c_58
                                    refine lv_iconst (v := 1) hx hb dX7_where_260 (by decide) ?_
                                    refine lv_goto (tgt := 265) hx hb dX7_where_261 (by decide) ?_
                                    refine lv_istore_n (lv' := [(3, .int 1), (6, .int (iI (eCr n X Y i px.toInt py.toInt))), (5, .int (nI (nxt n i))), (4, .int (nI i)), (0, .ref r), (1, .int px), (2, .int py)]) hx hb dX7_where_265 rfl hl (by decide) rfl (fun ls hl => ?_)
                                    refine lv_iinc (v := nI (i + 1)) (lv' := [(4, .int (nI (i + 1))), (3, .int 1), (6, .int (iI (eCr n X Y i px.toInt py.toInt))), (5, .int (nI (nxt n i))), (0, .ref r), (1, .int px), (2, .int py)]) hx hb dX7_where_266 hl (k := 3) rfl (nI_add i 1) (by decide) rfl (fun ls hl => ?_)
                                    refine lv_goto (tgt := 5) hx hb dX7_where_269 (by decide) ?_
                                    have hl9 := lv_sub hl [0, 1, 4, 5, 6] rfl
                                    have e9_3 : pI (par2 (eTg n X Y px.toInt py.toInt) (i + 1)) = (1 : Int32) := by first | exact zp_iff (par2_n (sk_tg (by omega)).1) | exact zp_iff (par2_n (by unfold eTg; omega)) | exact zp_t ((par2_y (by unfold eTg; omega)).mpr (by assumption)) | exact zp_f (fun q => (par2_y (by unfold eTg; omega)).mp q (by assumption))
                                    have hl9 : lv_has ls 7 [(4, .int (nI (i + 1))), (3, .int (pI (par2 (eTg n X Y px.toInt py.toInt) (i + 1)))), (0, .ref r), (1, .int px), (2, .int py)] := by rw [e9_3]; exact hl9
                                    exact ih_5 (i + 1) H locs ls (by omega) (by omega) (by intro k hk; rcases Nat.lt_or_ge k i with h | h; exact hno k h; have e9 : k = i := (by omega); subst e9; first | exact (sk_tg (by omega)).2 | (unfold eOn onS; unfold eCr at *; omega)) hP hD hS hl9
                        · have c_48 : py.toInt < (Y (nxt n i)).toInt := zc_nle rfl rfl c_48
                          refine lv_iconst (v := 1) hx hb dX7_where_213 (by decide) ?_
                          refine lv_goto (tgt := 218) hx hb dX7_where_214 (by decide) ?_
                          refine lv_icmp_eq (tgt := 266) hx hb dX7_where_218 (by decide) (fun c_59 => ?_) (fun c_59 => ?_)
                          · have c_59 : 1 = 1 := zc_eq (by decide) (by decide) c_59
                            refine lv_iinc (v := nI (i + 1)) (lv' := [(4, .int (nI (i + 1))), (6, .int (iI (eCr n X Y i px.toInt py.toInt))), (5, .int (nI (nxt n i))), (3, .int (pI (par2 (eTg n X Y px.toInt py.toInt) i))), (0, .ref r), (1, .int px), (2, .int py)]) hx hb dX7_where_266 hl (k := 2) rfl (nI_add i 1) (by decide) rfl (fun ls hl => ?_)
                            refine lv_goto (tgt := 5) hx hb dX7_where_269 (by decide) ?_
                            have hl9 := lv_sub hl [0, 3, 4, 5, 6] rfl
                            have e9_3 : pI (par2 (eTg n X Y px.toInt py.toInt) (i + 1)) = (pI (par2 (eTg n X Y px.toInt py.toInt) i) : Int32) := by first | exact zp_iff (par2_n (sk_tg (by omega)).1) | exact zp_iff (par2_n (by unfold eTg; omega)) | exact zp_t ((par2_y (by unfold eTg; omega)).mpr (by assumption)) | exact zp_f (fun q => (par2_y (by unfold eTg; omega)).mp q (by assumption))
                            have hl9 : lv_has ls 7 [(4, .int (nI (i + 1))), (3, .int (pI (par2 (eTg n X Y px.toInt py.toInt) (i + 1)))), (0, .ref r), (1, .int px), (2, .int py)] := by rw [e9_3]; exact hl9
                            exact ih_5 (i + 1) H locs ls (by omega) (by omega) (by intro k hk; rcases Nat.lt_or_ge k i with h | h; exact hno k h; have e9 : k = i := (by omega); subst e9; first | exact (sk_tg (by omega)).2 | (unfold eOn onS; unfold eCr at *; omega)) hP hD hS hl9
                          · exact absurd (by decide) c_59
                    · have c_34 : (X (nxt n i)).toInt ≤ px.toInt := zc_nlt rfl rfl c_34
                      refine lv_iconst (v := 2) hx hb dX7_where_184 (by decide) ?_
                      have hP9 := hP.sub (ws' := [(r, .inr (6, [.ref rx, .ref ry, .int (nI n), .int rg])), (rx, .inl (cI, cap, .inl X)), (ry, .inl (cI, cap, .inl Y))]) [0, 1, 2] rfl
                      have hD9 := hD.sub (ws' := [(r, .inr (6, [.ref rx, .ref ry, .int (nI n), .int rg])), (rx, .inl (cI, cap, .inl X)), (ry, .inl (cI, cap, .inl Y))]) [0, 1, 2] (by decide) rfl
                      rw [hQ9]
                      exact W.iret (v := 2) hx hb hr (fun t ht hW => ⟨⟨congrArg (fun z => Outcome.returned (some (Value.int z))) (show (2 : Int32) = whr n X Y px.toInt py.toInt from (whr_2 ⟨i, by omega, by unfold eOn onS; unfold eCr at *; omega⟩).symm), by rw [ht]; exact hP9, hD9⟩, hS.F ht⟩) hS.2.2 dX7_where_185
              · have c_6 : (X i).toInt < px.toInt := zc_nle rfl rfl c_6
                refine lv_aload_n hx hb dX7_where_90 rfl (lv_at hl 3 rfl) ?_
                refine va_get (D := (dC, dI)) (ci := 6) (v := .ref rx) (C := RX7) (T := TX7) (N := 4) hx hb hts inX7 hown hK hP 0 rfl rfl 0 (by decide) (hts _ mw_161) (fun _ h9 => h9) rfl dX7_where_91 ?_
                refine lv_iload hx hb dX7_where_94 (lv_at hl 0 rfl) ?_
                refine z_iald hx hb hK hP 1 0 rfl rfl (e := nxt n i) rfl (by omega) (by omega) dX7_where_96 ?_
                refine lv_iload_n hx hb dX7_where_97 rfl (lv_at hl 4 rfl) ?_
                refine lv_icmp_ge (tgt := 104) hx hb dX7_where_98 (by decide) (fun c_60 => ?_) (fun c_60 => ?_)
                · have c_60 : px.toInt ≤ (X (nxt n i)).toInt := zc_le rfl rfl c_60
                  refine lv_aload_n hx hb dX7_where_104 rfl (lv_at hl 3 rfl) ?_
                  refine va_get (D := (dC, dI)) (ci := 6) (v := .ref rx) (C := RX7) (T := TX7) (N := 4) hx hb hts inX7 hown hK hP 0 rfl rfl 0 (by decide) (hts _ mw_161) (fun _ h9 => h9) rfl dX7_where_105 ?_
                  refine lv_iload hx hb dX7_where_108 (lv_at hl 0 rfl) ?_
                  refine z_iald hx hb hK hP 1 0 rfl rfl (e := nxt n i) rfl (by omega) (by omega) dX7_where_110 ?_
                  refine lv_aload_n hx hb dX7_where_111 rfl (lv_at hl 3 rfl) ?_
                  refine va_get (D := (dC, dI)) (ci := 6) (v := .ref rx) (C := RX7) (T := TX7) (N := 4) hx hb hts inX7 hown hK hP 0 rfl rfl 0 (by decide) (hts _ mw_161) (fun _ h9 => h9) rfl dX7_where_112 ?_
                  refine lv_iload hx hb dX7_where_115 (lv_at hl 1 rfl) ?_
                  refine z_iald hx hb hK hP 1 0 rfl rfl (e := i) rfl (by omega) (by omega) dX7_where_117 ?_
                  refine lv_isub hx hb dX7_where_118 ?_
                  refine lv_iload_n hx hb dX7_where_119 rfl (lv_at hl 5 rfl) ?_
                  refine lv_aload_n hx hb dX7_where_120 rfl (lv_at hl 3 rfl) ?_
                  refine va_get (D := (dC, dI)) (ci := 6) (v := .ref ry) (C := RX7) (T := TX7) (N := 4) hx hb hts inX7 hown hK hP 0 rfl rfl 1 (by decide) (hts _ mw_168) (fun _ h9 => h9) rfl dX7_where_121 ?_
                  refine lv_iload hx hb dX7_where_124 (lv_at hl 1 rfl) ?_
                  refine z_iald hx hb hK hP 2 0 rfl rfl (e := i) rfl (by omega) (by omega) dX7_where_126 ?_
                  refine lv_isub hx hb dX7_where_127 ?_
                  refine lv_imul hx hb dX7_where_128 ?_
                  refine lv_aload_n hx hb dX7_where_129 rfl (lv_at hl 3 rfl) ?_
                  refine va_get (D := (dC, dI)) (ci := 6) (v := .ref ry) (C := RX7) (T := TX7) (N := 4) hx hb hts inX7 hown hK hP 0 rfl rfl 1 (by decide) (hts _ mw_168) (fun _ h9 => h9) rfl dX7_where_130 ?_
                  refine lv_iload hx hb dX7_where_133 (lv_at hl 0 rfl) ?_
                  refine z_iald hx hb hK hP 2 0 rfl rfl (e := nxt n i) rfl (by omega) (by omega) dX7_where_135 ?_
                  refine lv_aload_n hx hb dX7_where_136 rfl (lv_at hl 3 rfl) ?_
                  refine va_get (D := (dC, dI)) (ci := 6) (v := .ref ry) (C := RX7) (T := TX7) (N := 4) hx hb hts inX7 hown hK hP 0 rfl rfl 1 (by decide) (hts _ mw_168) (fun _ h9 => h9) rfl dX7_where_137 ?_
                  refine lv_iload hx hb dX7_where_140 (lv_at hl 1 rfl) ?_
                  refine z_iald hx hb hK hP 2 0 rfl rfl (e := i) rfl (by omega) (by omega) dX7_where_142 ?_
                  refine lv_isub hx hb dX7_where_143 ?_
                  refine lv_iload_n hx hb dX7_where_144 rfl (lv_at hl 4 rfl) ?_
                  refine lv_aload_n hx hb dX7_where_145 rfl (lv_at hl 3 rfl) ?_
                  refine va_get (D := (dC, dI)) (ci := 6) (v := .ref rx) (C := RX7) (T := TX7) (N := 4) hx hb hts inX7 hown hK hP 0 rfl rfl 0 (by decide) (hts _ mw_161) (fun _ h9 => h9) rfl dX7_where_146 ?_
                  refine lv_iload hx hb dX7_where_149 (lv_at hl 1 rfl) ?_
                  refine z_iald hx hb hK hP 1 0 rfl rfl (e := i) rfl (by omega) (by omega) dX7_where_151 ?_
                  refine lv_isub hx hb dX7_where_152 ?_
                  refine lv_imul hx hb dX7_where_153 ?_
                  refine lv_isub hx hb dX7_where_154 ?_
                  refine zz_i (v := iI (eCr n X Y i px.toInt py.toInt)) (crI (hp i (by omega)).1 (hp i (by omega)).2 (hp _ hnx).1 (hp _ hnx).2 hpx hpy) ?_
                  have hB1 := crBp (hp i (by omega)).1 (hp i (by omega)).2 (hp _ hnx).1 (hp _ hnx).2 hpx hpy
                  have hB1 : -2000000 ≤ eCr n X Y i px.toInt py.toInt ∧ eCr n X Y i px.toInt py.toInt ≤ 2000000 := hB1
                  refine lv_istore (lv' := [(6, .int (iI (eCr n X Y i px.toInt py.toInt))), (5, .int (nI (nxt n i))), (4, .int (nI i)), (3, .int (pI (par2 (eTg n X Y px.toInt py.toInt) i))), (0, .ref r), (1, .int px), (2, .int py)]) hx hb dX7_where_155 hl (by decide) rfl (fun ls hl => ?_)
                  refine lv_iload hx hb dX7_where_157 (lv_at hl 0 rfl) ?_
                  refine lv_if_ne (tgt := 186) hx hb dX7_where_159 (by decide) (fun c_61 => ?_) (fun c_61 => ?_)
                  · have c_61 : ¬ (eCr n X Y i px.toInt py.toInt) = 0 := zc_ne (iI_toInt (by omega)) (by decide) c_61
                    refine lv_aload_n hx hb dX7_where_186 rfl (lv_at hl 4 rfl) ?_
                    refine va_get (D := (dC, dI)) (ci := 6) (v := .ref ry) (C := RX7) (T := TX7) (N := 4) hx hb hts inX7 hown hK hP 0 rfl rfl 1 (by decide) (hts _ mw_168) (fun _ h9 => h9) rfl dX7_where_187 ?_
                    refine lv_iload hx hb dX7_where_190 (lv_at hl 2 rfl) ?_
                    refine z_iald hx hb hK hP 2 0 rfl rfl (e := i) rfl (by omega) (by omega) dX7_where_192 ?_
                    refine lv_iload_n hx hb dX7_where_193 rfl (lv_at hl 6 rfl) ?_
                    refine lv_icmp_le (tgt := 201) hx hb dX7_where_194 (by decide) (fun c_62 => ?_) (fun c_62 => ?_)
                    · have c_62 : (Y i).toInt ≤ py.toInt := zc_le rfl rfl c_62
                      refine lv_iconst (v := 0) hx hb dX7_where_201 (by decide) ?_
                      refine lv_aload_n hx hb dX7_where_202 rfl (lv_at hl 4 rfl) ?_
                      refine va_get (D := (dC, dI)) (ci := 6) (v := .ref ry) (C := RX7) (T := TX7) (N := 4) hx hb hts inX7 hown hK hP 0 rfl rfl 1 (by decide) (hts _ mw_168) (fun _ h9 => h9) rfl dX7_where_203 ?_
                      refine lv_iload hx hb dX7_where_206 (lv_at hl 1 rfl) ?_
                      refine z_iald hx hb hK hP 2 0 rfl rfl (e := nxt n i) rfl (by omega) (by omega) dX7_where_208 ?_
                      refine lv_iload_n hx hb dX7_where_209 rfl (lv_at hl 6 rfl) ?_
                      refine lv_icmp_le (tgt := 217) hx hb dX7_where_210 (by decide) (fun c_63 => ?_) (fun c_63 => ?_)
                      · have c_63 : (Y (nxt n i)).toInt ≤ py.toInt := zc_le rfl rfl c_63
                        refine lv_iconst (v := 0) hx hb dX7_where_217 (by decide) ?_
                        refine lv_icmp_eq (tgt := 266) hx hb dX7_where_218 (by decide) (fun c_64 => ?_) (fun c_64 => ?_)
                        · have c_64 : 0 = 0 := zc_eq (by decide) (by decide) c_64
                          refine lv_iinc (v := nI (i + 1)) (lv' := [(4, .int (nI (i + 1))), (6, .int (iI (eCr n X Y i px.toInt py.toInt))), (5, .int (nI (nxt n i))), (3, .int (pI (par2 (eTg n X Y px.toInt py.toInt) i))), (0, .ref r), (1, .int px), (2, .int py)]) hx hb dX7_where_266 hl (k := 2) rfl (nI_add i 1) (by decide) rfl (fun ls hl => ?_)
                          refine lv_goto (tgt := 5) hx hb dX7_where_269 (by decide) ?_
                          have hl9 := lv_sub hl [0, 3, 4, 5, 6] rfl
                          have e9_3 : pI (par2 (eTg n X Y px.toInt py.toInt) (i + 1)) = (pI (par2 (eTg n X Y px.toInt py.toInt) i) : Int32) := by first | exact zp_iff (par2_n (sk_tg (by omega)).1) | exact zp_iff (par2_n (by unfold eTg; omega)) | exact zp_t ((par2_y (by unfold eTg; omega)).mpr (by assumption)) | exact zp_f (fun q => (par2_y (by unfold eTg; omega)).mp q (by assumption))
                          have hl9 : lv_has ls 7 [(4, .int (nI (i + 1))), (3, .int (pI (par2 (eTg n X Y px.toInt py.toInt) (i + 1)))), (0, .ref r), (1, .int px), (2, .int py)] := by rw [e9_3]; exact hl9
                          exact ih_5 (i + 1) H locs ls (by omega) (by omega) (by intro k hk; rcases Nat.lt_or_ge k i with h | h; exact hno k h; have e9 : k = i := (by omega); subst e9; first | exact (sk_tg (by omega)).2 | (unfold eOn onS; unfold eCr at *; omega)) hP hD hS hl9
                        · exact absurd (by decide) c_64
                      · have c_63 : py.toInt < (Y (nxt n i)).toInt := zc_nle rfl rfl c_63
                        refine lv_iconst (v := 1) hx hb dX7_where_213 (by decide) ?_
                        refine lv_goto (tgt := 218) hx hb dX7_where_214 (by decide) ?_
                        refine lv_icmp_eq (tgt := 266) hx hb dX7_where_218 (by decide) (fun c_65 => ?_) (fun c_65 => ?_)
                        · exact absurd c_65 (by decide)
                        · have c_65 : ¬ 0 = 1 := zc_ne (by decide) (by decide) c_65
                          refine lv_iload hx hb dX7_where_221 (lv_at hl 0 rfl) ?_
                          refine lv_if_le (tgt := 230) hx hb dX7_where_223 (by decide) (fun c_66 => ?_) (fun c_66 => ?_)
                          · have c_66 : (eCr n X Y i px.toInt py.toInt) ≤ 0 := zc_le (iI_toInt (by omega)) (by decide) c_66
                            refine lv_iconst (v := 0) hx hb dX7_where_230 (by decide) ?_
                            refine lv_aload_n hx hb dX7_where_231 rfl (lv_at hl 4 rfl) ?_
                            refine va_get (D := (dC, dI)) (ci := 6) (v := .ref ry) (C := RX7) (T := TX7) (N := 4) hx hb hts inX7 hown hK hP 0 rfl rfl 1 (by decide) (hts _ mw_168) (fun _ h9 => h9) rfl dX7_where_232 ?_
                            refine lv_iload hx hb dX7_where_235 (lv_at hl 1 rfl) ?_
                            refine z_iald hx hb hK hP 2 0 rfl rfl (e := nxt n i) rfl (by omega) (by omega) dX7_where_237 ?_
                            refine lv_aload_n hx hb dX7_where_238 rfl (lv_at hl 4 rfl) ?_
                            refine va_get (D := (dC, dI)) (ci := 6) (v := .ref ry) (C := RX7) (T := TX7) (N := 4) hx hb hts inX7 hown hK hP 0 rfl rfl 1 (by decide) (hts _ mw_168) (fun _ h9 => h9) rfl dX7_where_239 ?_
                            refine lv_iload hx hb dX7_where_242 (lv_at hl 2 rfl) ?_
                            refine z_iald hx hb hK hP 2 0 rfl rfl (e := i) rfl (by omega) (by omega) dX7_where_244 ?_
                            refine lv_icmp_le (tgt := 252) hx hb dX7_where_245 (by decide) (fun c_67 => ?_) (fun c_67 => ?_)
                            · have c_67 : (Y (nxt n i)).toInt ≤ (Y i).toInt := zc_le rfl rfl c_67
                              refine lv_iconst (v := 0) hx hb dX7_where_252 (by decide) ?_
                              refine lv_icmp_ne (tgt := 266) hx hb dX7_where_253 (by decide) (fun c_68 => ?_) (fun c_68 => ?_)
                              · exact absurd (by decide) c_68
                              · have c_68 : 0 = 0 := zc_eq (by decide) (by decide) c_68
                                refine lv_iload_n hx hb dX7_where_256 rfl (lv_at hl 3 rfl) ?_
                                refine lv_if_ne (tgt := 264) hx hb dX7_where_257 (by decide) (fun c_69 => ?_) (fun c_69 => ?_)
                                · have c_69 : par2 (eTg n X Y px.toInt py.toInt) i := zp_1 c_69
                                  refine lv_iconst (v := 0) hx hb dX7_where_264 (by decide) ?_
                                  refine lv_istore_n (lv' := [(3, .int 0), (6, .int (iI (eCr n X Y i px.toInt py.toInt))), (5, .int (nI (nxt n i))), (4, .int (nI i)), (0, .ref r), (1, .int px), (2, .int py)]) hx hb dX7_where_265 rfl hl (by decide) rfl (fun ls hl => ?_)
                                  refine lv_iinc (v := nI (i + 1)) (lv' := [(4, .int (nI (i + 1))), (3, .int 0), (6, .int (iI (eCr n X Y i px.toInt py.toInt))), (5, .int (nI (nxt n i))), (0, .ref r), (1, .int px), (2, .int py)]) hx hb dX7_where_266 hl (k := 3) rfl (nI_add i 1) (by decide) rfl (fun ls hl => ?_)
                                  refine lv_goto (tgt := 5) hx hb dX7_where_269 (by decide) ?_
                                  have hl9 := lv_sub hl [0, 1, 4, 5, 6] rfl
                                  have e9_3 : pI (par2 (eTg n X Y px.toInt py.toInt) (i + 1)) = (0 : Int32) := by first | exact zp_iff (par2_n (sk_tg (by omega)).1) | exact zp_iff (par2_n (by unfold eTg; omega)) | exact zp_t ((par2_y (by unfold eTg; omega)).mpr (by assumption)) | exact zp_f (fun q => (par2_y (by unfold eTg; omega)).mp q (by assumption))
                                  have hl9 : lv_has ls 7 [(4, .int (nI (i + 1))), (3, .int (pI (par2 (eTg n X Y px.toInt py.toInt) (i + 1)))), (0, .ref r), (1, .int px), (2, .int py)] := by rw [e9_3]; exact hl9
                                  exact ih_5 (i + 1) H locs ls (by omega) (by omega) (by intro k hk; rcases Nat.lt_or_ge k i with h | h; exact hno k h; have e9 : k = i := (by omega); subst e9; first | exact (sk_tg (by omega)).2 | (unfold eOn onS; unfold eCr at *; omega)) hP hD hS hl9
                                · have c_69 : ¬ (par2 (eTg n X Y px.toInt py.toInt) i) := zp_0 c_69
                                  refine lv_iconst (v := 1) hx hb dX7_where_260 (by decide) ?_
                                  refine lv_goto (tgt := 265) hx hb dX7_where_261 (by decide) ?_
                                  refine lv_istore_n (lv' := [(3, .int 1), (6, .int (iI (eCr n X Y i px.toInt py.toInt))), (5, .int (nI (nxt n i))), (4, .int (nI i)), (0, .ref r), (1, .int px), (2, .int py)]) hx hb dX7_where_265 rfl hl (by decide) rfl (fun ls hl => ?_)
                                  refine lv_iinc (v := nI (i + 1)) (lv' := [(4, .int (nI (i + 1))), (3, .int 1), (6, .int (iI (eCr n X Y i px.toInt py.toInt))), (5, .int (nI (nxt n i))), (0, .ref r), (1, .int px), (2, .int py)]) hx hb dX7_where_266 hl (k := 3) rfl (nI_add i 1) (by decide) rfl (fun ls hl => ?_)
                                  refine lv_goto (tgt := 5) hx hb dX7_where_269 (by decide) ?_
                                  have hl9 := lv_sub hl [0, 1, 4, 5, 6] rfl
                                  have e9_3 : pI (par2 (eTg n X Y px.toInt py.toInt) (i + 1)) = (1 : Int32) := by first | exact zp_iff (par2_n (sk_tg (by omega)).1) | exact zp_iff (par2_n (by unfold eTg; omega)) | exact zp_t ((par2_y (by unfold eTg; omega)).mpr (by assumption)) | exact zp_f (fun q => (par2_y (by unfold eTg; omega)).mp q (by assumption))
                                  have hl9 : lv_has ls 7 [(4, .int (nI (i + 1))), (3, .int (pI (par2 (eTg n X Y px.toInt py.toInt) (i + 1)))), (0, .ref r), (1, .int px), (2, .int py)] := by rw [e9_3]; exact hl9
                                  exact ih_5 (i + 1) H locs ls (by omega) (by omega) (by intro k hk; rcases Nat.lt_or_ge k i with h | h; exact hno k h; have e9 : k = i := (by omega); subst e9; first | exact (sk_tg (by omega)).2 | (unfold eOn onS; unfold eCr at *; omega)) hP hD hS hl9
                            · have c_67 : (Y i).toInt < (Y (nxt n i)).toInt := zc_nle rfl rfl c_67
                              refine lv_iconst (v := 1) hx hb dX7_where_248 (by decide) ?_
                              refine lv_goto (tgt := 253) hx hb dX7_where_249 (by decide) ?_
                              refine lv_icmp_ne (tgt := 266) hx hb dX7_where_253 (by decide) (fun c_70 => ?_) (fun c_70 => ?_)
                              · have c_70 : ¬ 0 = 1 := zc_ne (by decide) (by decide) c_70
                                refine lv_iinc (v := nI (i + 1)) (lv' := [(4, .int (nI (i + 1))), (6, .int (iI (eCr n X Y i px.toInt py.toInt))), (5, .int (nI (nxt n i))), (3, .int (pI (par2 (eTg n X Y px.toInt py.toInt) i))), (0, .ref r), (1, .int px), (2, .int py)]) hx hb dX7_where_266 hl (k := 2) rfl (nI_add i 1) (by decide) rfl (fun ls hl => ?_)
                                refine lv_goto (tgt := 5) hx hb dX7_where_269 (by decide) ?_
                                have hl9 := lv_sub hl [0, 3, 4, 5, 6] rfl
                                have e9_3 : pI (par2 (eTg n X Y px.toInt py.toInt) (i + 1)) = (pI (par2 (eTg n X Y px.toInt py.toInt) i) : Int32) := by first | exact zp_iff (par2_n (sk_tg (by omega)).1) | exact zp_iff (par2_n (by unfold eTg; omega)) | exact zp_t ((par2_y (by unfold eTg; omega)).mpr (by assumption)) | exact zp_f (fun q => (par2_y (by unfold eTg; omega)).mp q (by assumption))
                                have hl9 : lv_has ls 7 [(4, .int (nI (i + 1))), (3, .int (pI (par2 (eTg n X Y px.toInt py.toInt) (i + 1)))), (0, .ref r), (1, .int px), (2, .int py)] := by rw [e9_3]; exact hl9
                                exact ih_5 (i + 1) H locs ls (by omega) (by omega) (by intro k hk; rcases Nat.lt_or_ge k i with h | h; exact hno k h; have e9 : k = i := (by omega); subst e9; first | exact (sk_tg (by omega)).2 | (unfold eOn onS; unfold eCr at *; omega)) hP hD hS hl9
                              · exact absurd c_70 (by decide)
                          · have c_66 : 0 < (eCr n X Y i px.toInt py.toInt) := zc_nle (iI_toInt (by omega)) (by decide) c_66
                            refine lv_iconst (v := 1) hx hb dX7_where_226 (by decide) ?_
                            refine lv_goto (tgt := 231) hx hb dX7_where_227 (by decide) ?_
                            refine lv_aload_n hx hb dX7_where_231 rfl (lv_at hl 4 rfl) ?_
                            refine va_get (D := (dC, dI)) (ci := 6) (v := .ref ry) (C := RX7) (T := TX7) (N := 4) hx hb hts inX7 hown hK hP 0 rfl rfl 1 (by decide) (hts _ mw_168) (fun _ h9 => h9) rfl dX7_where_232 ?_
                            refine lv_iload hx hb dX7_where_235 (lv_at hl 1 rfl) ?_
                            refine z_iald hx hb hK hP 2 0 rfl rfl (e := nxt n i) rfl (by omega) (by omega) dX7_where_237 ?_
                            refine lv_aload_n hx hb dX7_where_238 rfl (lv_at hl 4 rfl) ?_
                            refine va_get (D := (dC, dI)) (ci := 6) (v := .ref ry) (C := RX7) (T := TX7) (N := 4) hx hb hts inX7 hown hK hP 0 rfl rfl 1 (by decide) (hts _ mw_168) (fun _ h9 => h9) rfl dX7_where_239 ?_
                            refine lv_iload hx hb dX7_where_242 (lv_at hl 2 rfl) ?_
                            refine z_iald hx hb hK hP 2 0 rfl rfl (e := i) rfl (by omega) (by omega) dX7_where_244 ?_
                            refine lv_icmp_le (tgt := 252) hx hb dX7_where_245 (by decide) (fun c_71 => ?_) (fun c_71 => ?_)
                            · have c_71 : (Y (nxt n i)).toInt ≤ (Y i).toInt := zc_le rfl rfl c_71
                              refine lv_iconst (v := 0) hx hb dX7_where_252 (by decide) ?_
                              refine lv_icmp_ne (tgt := 266) hx hb dX7_where_253 (by decide) (fun c_72 => ?_) (fun c_72 => ?_)
                              · have c_72 : ¬ 1 = 0 := zc_ne (by decide) (by decide) c_72
                                refine lv_iinc (v := nI (i + 1)) (lv' := [(4, .int (nI (i + 1))), (6, .int (iI (eCr n X Y i px.toInt py.toInt))), (5, .int (nI (nxt n i))), (3, .int (pI (par2 (eTg n X Y px.toInt py.toInt) i))), (0, .ref r), (1, .int px), (2, .int py)]) hx hb dX7_where_266 hl (k := 2) rfl (nI_add i 1) (by decide) rfl (fun ls hl => ?_)
                                refine lv_goto (tgt := 5) hx hb dX7_where_269 (by decide) ?_
                                have hl9 := lv_sub hl [0, 3, 4, 5, 6] rfl
                                have e9_3 : pI (par2 (eTg n X Y px.toInt py.toInt) (i + 1)) = (pI (par2 (eTg n X Y px.toInt py.toInt) i) : Int32) := by first | exact zp_iff (par2_n (sk_tg (by omega)).1) | exact zp_iff (par2_n (by unfold eTg; omega)) | exact zp_t ((par2_y (by unfold eTg; omega)).mpr (by assumption)) | exact zp_f (fun q => (par2_y (by unfold eTg; omega)).mp q (by assumption))
                                have hl9 : lv_has ls 7 [(4, .int (nI (i + 1))), (3, .int (pI (par2 (eTg n X Y px.toInt py.toInt) (i + 1)))), (0, .ref r), (1, .int px), (2, .int py)] := by rw [e9_3]; exact hl9
                                exact ih_5 (i + 1) H locs ls (by omega) (by omega) (by intro k hk; rcases Nat.lt_or_ge k i with h | h; exact hno k h; have e9 : k = i := (by omega); subst e9; first | exact (sk_tg (by omega)).2 | (unfold eOn onS; unfold eCr at *; omega)) hP hD hS hl9
                              · exact absurd c_72 (by decide)
                            · have c_71 : (Y i).toInt < (Y (nxt n i)).toInt := zc_nle rfl rfl c_71
                              refine lv_iconst (v := 1) hx hb dX7_where_248 (by decide) ?_
                              refine lv_goto (tgt := 253) hx hb dX7_where_249 (by decide) ?_
                              refine lv_icmp_ne (tgt := 266) hx hb dX7_where_253 (by decide) (fun c_73 => ?_) (fun c_73 => ?_)
                              · exact absurd (by decide) c_73
                              · have c_73 : 1 = 1 := zc_eq (by decide) (by decide) c_73
                                refine lv_iload_n hx hb dX7_where_256 rfl (lv_at hl 3 rfl) ?_
                                refine lv_if_ne (tgt := 264) hx hb dX7_where_257 (by decide) (fun c_74 => ?_) (fun c_74 => ?_)
                                · have c_74 : par2 (eTg n X Y px.toInt py.toInt) i := zp_1 c_74
                                  refine lv_iconst (v := 0) hx hb dX7_where_264 (by decide) ?_
                                  refine lv_istore_n (lv' := [(3, .int 0), (6, .int (iI (eCr n X Y i px.toInt py.toInt))), (5, .int (nI (nxt n i))), (4, .int (nI i)), (0, .ref r), (1, .int px), (2, .int py)]) hx hb dX7_where_265 rfl hl (by decide) rfl (fun ls hl => ?_)
                                  refine lv_iinc (v := nI (i + 1)) (lv' := [(4, .int (nI (i + 1))), (3, .int 0), (6, .int (iI (eCr n X Y i px.toInt py.toInt))), (5, .int (nI (nxt n i))), (0, .ref r), (1, .int px), (2, .int py)]) hx hb dX7_where_266 hl (k := 3) rfl (nI_add i 1) (by decide) rfl (fun ls hl => ?_)
                                  refine lv_goto (tgt := 5) hx hb dX7_where_269 (by decide) ?_
                                  have hl9 := lv_sub hl [0, 1, 4, 5, 6] rfl
                                  have e9_3 : pI (par2 (eTg n X Y px.toInt py.toInt) (i + 1)) = (0 : Int32) := by first | exact zp_iff (par2_n (sk_tg (by omega)).1) | exact zp_iff (par2_n (by unfold eTg; omega)) | exact zp_t ((par2_y (by unfold eTg; omega)).mpr (by assumption)) | exact zp_f (fun q => (par2_y (by unfold eTg; omega)).mp q (by assumption))
                                  have hl9 : lv_has ls 7 [(4, .int (nI (i + 1))), (3, .int (pI (par2 (eTg n X Y px.toInt py.toInt) (i + 1)))), (0, .ref r), (1, .int px), (2, .int py)] := by rw [e9_3]; exact hl9
                                  exact ih_5 (i + 1) H locs ls (by omega) (by omega) (by intro k hk; rcases Nat.lt_or_ge k i with h | h; exact hno k h; have e9 : k = i := (by omega); subst e9; first | exact (sk_tg (by omega)).2 | (unfold eOn onS; unfold eCr at *; omega)) hP hD hS hl9
                                · have c_74 : ¬ (par2 (eTg n X Y px.toInt py.toInt) i) := zp_0 c_74
                                  refine lv_iconst (v := 1) hx hb dX7_where_260 (by decide) ?_
                                  refine lv_goto (tgt := 265) hx hb dX7_where_261 (by decide) ?_
                                  refine lv_istore_n (lv' := [(3, .int 1), (6, .int (iI (eCr n X Y i px.toInt py.toInt))), (5, .int (nI (nxt n i))), (4, .int (nI i)), (0, .ref r), (1, .int px), (2, .int py)]) hx hb dX7_where_265 rfl hl (by decide) rfl (fun ls hl => ?_)
                                  refine lv_iinc (v := nI (i + 1)) (lv' := [(4, .int (nI (i + 1))), (3, .int 1), (6, .int (iI (eCr n X Y i px.toInt py.toInt))), (5, .int (nI (nxt n i))), (0, .ref r), (1, .int px), (2, .int py)]) hx hb dX7_where_266 hl (k := 3) rfl (nI_add i 1) (by decide) rfl (fun ls hl => ?_)
                                  refine lv_goto (tgt := 5) hx hb dX7_where_269 (by decide) ?_
                                  have hl9 := lv_sub hl [0, 1, 4, 5, 6] rfl
                                  have e9_3 : pI (par2 (eTg n X Y px.toInt py.toInt) (i + 1)) = (1 : Int32) := by first | exact zp_iff (par2_n (sk_tg (by omega)).1) | exact zp_iff (par2_n (by unfold eTg; omega)) | exact zp_t ((par2_y (by unfold eTg; omega)).mpr (by assumption)) | exact zp_f (fun q => (par2_y (by unfold eTg; omega)).mp q (by assumption))
                                  have hl9 : lv_has ls 7 [(4, .int (nI (i + 1))), (3, .int (pI (par2 (eTg n X Y px.toInt py.toInt) (i + 1)))), (0, .ref r), (1, .int px), (2, .int py)] := by rw [e9_3]; exact hl9
                                  exact ih_5 (i + 1) H locs ls (by omega) (by omega) (by intro k hk; rcases Nat.lt_or_ge k i with h | h; exact hno k h; have e9 : k = i := (by omega); subst e9; first | exact (sk_tg (by omega)).2 | (unfold eOn onS; unfold eCr at *; omega)) hP hD hS hl9
                    · have c_62 : py.toInt < (Y i).toInt := zc_nle rfl rfl c_62
                      refine lv_iconst (v := 1) hx hb dX7_where_197 (by decide) ?_
                      refine lv_goto (tgt := 202) hx hb dX7_where_198 (by decide) ?_
                      refine lv_aload_n hx hb dX7_where_202 rfl (lv_at hl 4 rfl) ?_
                      refine va_get (D := (dC, dI)) (ci := 6) (v := .ref ry) (C := RX7) (T := TX7) (N := 4) hx hb hts inX7 hown hK hP 0 rfl rfl 1 (by decide) (hts _ mw_168) (fun _ h9 => h9) rfl dX7_where_203 ?_
                      refine lv_iload hx hb dX7_where_206 (lv_at hl 1 rfl) ?_
                      refine z_iald hx hb hK hP 2 0 rfl rfl (e := nxt n i) rfl (by omega) (by omega) dX7_where_208 ?_
                      refine lv_iload_n hx hb dX7_where_209 rfl (lv_at hl 6 rfl) ?_
                      refine lv_icmp_le (tgt := 217) hx hb dX7_where_210 (by decide) (fun c_75 => ?_) (fun c_75 => ?_)
                      · have c_75 : (Y (nxt n i)).toInt ≤ py.toInt := zc_le rfl rfl c_75
                        refine lv_iconst (v := 0) hx hb dX7_where_217 (by decide) ?_
                        refine lv_icmp_eq (tgt := 266) hx hb dX7_where_218 (by decide) (fun c_76 => ?_) (fun c_76 => ?_)
                        · exact absurd c_76 (by decide)
                        · have c_76 : ¬ 1 = 0 := zc_ne (by decide) (by decide) c_76
                          refine lv_iload hx hb dX7_where_221 (lv_at hl 0 rfl) ?_
                          refine lv_if_le (tgt := 230) hx hb dX7_where_223 (by decide) (fun c_77 => ?_) (fun c_77 => ?_)
                          · have c_77 : (eCr n X Y i px.toInt py.toInt) ≤ 0 := zc_le (iI_toInt (by omega)) (by decide) c_77
                            refine lv_iconst (v := 0) hx hb dX7_where_230 (by decide) ?_
                            refine lv_aload_n hx hb dX7_where_231 rfl (lv_at hl 4 rfl) ?_
                            refine va_get (D := (dC, dI)) (ci := 6) (v := .ref ry) (C := RX7) (T := TX7) (N := 4) hx hb hts inX7 hown hK hP 0 rfl rfl 1 (by decide) (hts _ mw_168) (fun _ h9 => h9) rfl dX7_where_232 ?_
                            refine lv_iload hx hb dX7_where_235 (lv_at hl 1 rfl) ?_
                            refine z_iald hx hb hK hP 2 0 rfl rfl (e := nxt n i) rfl (by omega) (by omega) dX7_where_237 ?_
                            refine lv_aload_n hx hb dX7_where_238 rfl (lv_at hl 4 rfl) ?_
                            refine va_get (D := (dC, dI)) (ci := 6) (v := .ref ry) (C := RX7) (T := TX7) (N := 4) hx hb hts inX7 hown hK hP 0 rfl rfl 1 (by decide) (hts _ mw_168) (fun _ h9 => h9) rfl dX7_where_239 ?_
                            refine lv_iload hx hb dX7_where_242 (lv_at hl 2 rfl) ?_
                            refine z_iald hx hb hK hP 2 0 rfl rfl (e := i) rfl (by omega) (by omega) dX7_where_244 ?_
                            refine lv_icmp_le (tgt := 252) hx hb dX7_where_245 (by decide) (fun c_78 => ?_) (fun c_78 => ?_)
                            · have c_78 : (Y (nxt n i)).toInt ≤ (Y i).toInt := zc_le rfl rfl c_78
                              refine lv_iconst (v := 0) hx hb dX7_where_252 (by decide) ?_
                              refine lv_icmp_ne (tgt := 266) hx hb dX7_where_253 (by decide) (fun c_79 => ?_) (fun c_79 => ?_)
                              · exact absurd (by decide) c_79
                              · have c_79 : 0 = 0 := zc_eq (by decide) (by decide) c_79
                                refine lv_iload_n hx hb dX7_where_256 rfl (lv_at hl 3 rfl) ?_
                                refine lv_if_ne (tgt := 264) hx hb dX7_where_257 (by decide) (fun c_80 => ?_) (fun c_80 => ?_)
                                · have c_80 : par2 (eTg n X Y px.toInt py.toInt) i := zp_1 c_80
                                  refine lv_iconst (v := 0) hx hb dX7_where_264 (by decide) ?_
                                  refine lv_istore_n (lv' := [(3, .int 0), (6, .int (iI (eCr n X Y i px.toInt py.toInt))), (5, .int (nI (nxt n i))), (4, .int (nI i)), (0, .ref r), (1, .int px), (2, .int py)]) hx hb dX7_where_265 rfl hl (by decide) rfl (fun ls hl => ?_)
                                  refine lv_iinc (v := nI (i + 1)) (lv' := [(4, .int (nI (i + 1))), (3, .int 0), (6, .int (iI (eCr n X Y i px.toInt py.toInt))), (5, .int (nI (nxt n i))), (0, .ref r), (1, .int px), (2, .int py)]) hx hb dX7_where_266 hl (k := 3) rfl (nI_add i 1) (by decide) rfl (fun ls hl => ?_)
                                  refine lv_goto (tgt := 5) hx hb dX7_where_269 (by decide) ?_
                                  have hl9 := lv_sub hl [0, 1, 4, 5, 6] rfl
                                  have e9_3 : pI (par2 (eTg n X Y px.toInt py.toInt) (i + 1)) = (0 : Int32) := by first | exact zp_iff (par2_n (sk_tg (by omega)).1) | exact zp_iff (par2_n (by unfold eTg; omega)) | exact zp_t ((par2_y (by unfold eTg; omega)).mpr (by assumption)) | exact zp_f (fun q => (par2_y (by unfold eTg; omega)).mp q (by assumption))
                                  have hl9 : lv_has ls 7 [(4, .int (nI (i + 1))), (3, .int (pI (par2 (eTg n X Y px.toInt py.toInt) (i + 1)))), (0, .ref r), (1, .int px), (2, .int py)] := by rw [e9_3]; exact hl9
                                  exact ih_5 (i + 1) H locs ls (by omega) (by omega) (by intro k hk; rcases Nat.lt_or_ge k i with h | h; exact hno k h; have e9 : k = i := (by omega); subst e9; first | exact (sk_tg (by omega)).2 | (unfold eOn onS; unfold eCr at *; omega)) hP hD hS hl9
                                · have c_80 : ¬ (par2 (eTg n X Y px.toInt py.toInt) i) := zp_0 c_80
                                  refine lv_iconst (v := 1) hx hb dX7_where_260 (by decide) ?_
                                  refine lv_goto (tgt := 265) hx hb dX7_where_261 (by decide) ?_
                                  refine lv_istore_n (lv' := [(3, .int 1), (6, .int (iI (eCr n X Y i px.toInt py.toInt))), (5, .int (nI (nxt n i))), (4, .int (nI i)), (0, .ref r), (1, .int px), (2, .int py)]) hx hb dX7_where_265 rfl hl (by decide) rfl (fun ls hl => ?_)
                                  refine lv_iinc (v := nI (i + 1)) (lv' := [(4, .int (nI (i + 1))), (3, .int 1), (6, .int (iI (eCr n X Y i px.toInt py.toInt))), (5, .int (nI (nxt n i))), (0, .ref r), (1, .int px), (2, .int py)]) hx hb dX7_where_266 hl (k := 3) rfl (nI_add i 1) (by decide) rfl (fun ls hl => ?_)
                                  refine lv_goto (tgt := 5) hx hb dX7_where_269 (by decide) ?_
                                  have hl9 := lv_sub hl [0, 1, 4, 5, 6] rfl
                                  have e9_3 : pI (par2 (eTg n X Y px.toInt py.toInt) (i + 1)) = (1 : Int32) := by first | exact zp_iff (par2_n (sk_tg (by omega)).1) | exact zp_iff (par2_n (by unfold eTg; omega)) | exact zp_t ((par2_y (by unfold eTg; omega)).mpr (by assumption)) | exact zp_f (fun q => (par2_y (by unfold eTg; omega)).mp q (by assumption))
                                  have hl9 : lv_has ls 7 [(4, .int (nI (i + 1))), (3, .int (pI (par2 (eTg n X Y px.toInt py.toInt) (i + 1)))), (0, .ref r), (1, .int px), (2, .int py)] := by rw [e9_3]; exact hl9
                                  exact ih_5 (i + 1) H locs ls (by omega) (by omega) (by intro k hk; rcases Nat.lt_or_ge k i with h | h; exact hno k h; have e9 : k = i := (by omega); subst e9; first | exact (sk_tg (by omega)).2 | (unfold eOn onS; unfold eCr at *; omega)) hP hD hS hl9
                            · have c_78 : (Y i).toInt < (Y (nxt n i)).toInt := zc_nle rfl rfl c_78
                              refine lv_iconst (v := 1) hx hb dX7_where_248 (by decide) ?_
                              refine lv_goto (tgt := 253) hx hb dX7_where_249 (by decide) ?_
                              refine lv_icmp_ne (tgt := 266) hx hb dX7_where_253 (by decide) (fun c_81 => ?_) (fun c_81 => ?_)
                              · have c_81 : ¬ 0 = 1 := zc_ne (by decide) (by decide) c_81
                                refine lv_iinc (v := nI (i + 1)) (lv' := [(4, .int (nI (i + 1))), (6, .int (iI (eCr n X Y i px.toInt py.toInt))), (5, .int (nI (nxt n i))), (3, .int (pI (par2 (eTg n X Y px.toInt py.toInt) i))), (0, .ref r), (1, .int px), (2, .int py)]) hx hb dX7_where_266 hl (k := 2) rfl (nI_add i 1) (by decide) rfl (fun ls hl => ?_)
                                refine lv_goto (tgt := 5) hx hb dX7_where_269 (by decide) ?_
                                have hl9 := lv_sub hl [0, 3, 4, 5, 6] rfl
                                have e9_3 : pI (par2 (eTg n X Y px.toInt py.toInt) (i + 1)) = (pI (par2 (eTg n X Y px.toInt py.toInt) i) : Int32) := by first | exact zp_iff (par2_n (sk_tg (by omega)).1) | exact zp_iff (par2_n (by unfold eTg; omega)) | exact zp_t ((par2_y (by unfold eTg; omega)).mpr (by assumption)) | exact zp_f (fun q => (par2_y (by unfold eTg; omega)).mp q (by assumption))
                                have hl9 : lv_has ls 7 [(4, .int (nI (i + 1))), (3, .int (pI (par2 (eTg n X Y px.toInt py.toInt) (i + 1)))), (0, .ref r), (1, .int px), (2, .int py)] := by rw [e9_3]; exact hl9
                                exact ih_5 (i + 1) H locs ls (by omega) (by omega) (by intro k hk; rcases Nat.lt_or_ge k i with h | h; exact hno k h; have e9 : k = i := (by omega); subst e9; first | exact (sk_tg (by omega)).2 | (unfold eOn onS; unfold eCr at *; omega)) hP hD hS hl9
                              · exact absurd c_81 (by decide)
                          · have c_77 : 0 < (eCr n X Y i px.toInt py.toInt) := zc_nle (iI_toInt (by omega)) (by decide) c_77
                            refine lv_iconst (v := 1) hx hb dX7_where_226 (by decide) ?_
                            refine lv_goto (tgt := 231) hx hb dX7_where_227 (by decide) ?_
                            refine lv_aload_n hx hb dX7_where_231 rfl (lv_at hl 4 rfl) ?_
                            refine va_get (D := (dC, dI)) (ci := 6) (v := .ref ry) (C := RX7) (T := TX7) (N := 4) hx hb hts inX7 hown hK hP 0 rfl rfl 1 (by decide) (hts _ mw_168) (fun _ h9 => h9) rfl dX7_where_232 ?_
                            refine lv_iload hx hb dX7_where_235 (lv_at hl 1 rfl) ?_
                            refine z_iald hx hb hK hP 2 0 rfl rfl (e := nxt n i) rfl (by omega) (by omega) dX7_where_237 ?_
                            refine lv_aload_n hx hb dX7_where_238 rfl (lv_at hl 4 rfl) ?_
                            refine va_get (D := (dC, dI)) (ci := 6) (v := .ref ry) (C := RX7) (T := TX7) (N := 4) hx hb hts inX7 hown hK hP 0 rfl rfl 1 (by decide) (hts _ mw_168) (fun _ h9 => h9) rfl dX7_where_239 ?_
                            refine lv_iload hx hb dX7_where_242 (lv_at hl 2 rfl) ?_
                            refine z_iald hx hb hK hP 2 0 rfl rfl (e := i) rfl (by omega) (by omega) dX7_where_244 ?_
                            refine lv_icmp_le (tgt := 252) hx hb dX7_where_245 (by decide) (fun c_82 => ?_) (fun c_82 => ?_)
                            · have c_82 : (Y (nxt n i)).toInt ≤ (Y i).toInt := zc_le rfl rfl c_82
                              refine lv_iconst (v := 0) hx hb dX7_where_252 (by decide) ?_
                              refine lv_icmp_ne (tgt := 266) hx hb dX7_where_253 (by decide) (fun c_83 => ?_) (fun c_83 => ?_)
                              · have c_83 : ¬ 1 = 0 := zc_ne (by decide) (by decide) c_83
                                refine lv_iinc (v := nI (i + 1)) (lv' := [(4, .int (nI (i + 1))), (6, .int (iI (eCr n X Y i px.toInt py.toInt))), (5, .int (nI (nxt n i))), (3, .int (pI (par2 (eTg n X Y px.toInt py.toInt) i))), (0, .ref r), (1, .int px), (2, .int py)]) hx hb dX7_where_266 hl (k := 2) rfl (nI_add i 1) (by decide) rfl (fun ls hl => ?_)
                                refine lv_goto (tgt := 5) hx hb dX7_where_269 (by decide) ?_
                                have hl9 := lv_sub hl [0, 3, 4, 5, 6] rfl
                                have e9_3 : pI (par2 (eTg n X Y px.toInt py.toInt) (i + 1)) = (pI (par2 (eTg n X Y px.toInt py.toInt) i) : Int32) := by first | exact zp_iff (par2_n (sk_tg (by omega)).1) | exact zp_iff (par2_n (by unfold eTg; omega)) | exact zp_t ((par2_y (by unfold eTg; omega)).mpr (by assumption)) | exact zp_f (fun q => (par2_y (by unfold eTg; omega)).mp q (by assumption))
                                have hl9 : lv_has ls 7 [(4, .int (nI (i + 1))), (3, .int (pI (par2 (eTg n X Y px.toInt py.toInt) (i + 1)))), (0, .ref r), (1, .int px), (2, .int py)] := by rw [e9_3]; exact hl9
                                exact ih_5 (i + 1) H locs ls (by omega) (by omega) (by intro k hk; rcases Nat.lt_or_ge k i with h | h; exact hno k h; have e9 : k = i := (by omega); subst e9; first | exact (sk_tg (by omega)).2 | (unfold eOn onS; unfold eCr at *; omega)) hP hD hS hl9
                              · exact absurd c_83 (by decide)
                            · have c_82 : (Y i).toInt < (Y (nxt n i)).toInt := zc_nle rfl rfl c_82
                              refine lv_iconst (v := 1) hx hb dX7_where_248 (by decide) ?_
                              refine lv_goto (tgt := 253) hx hb dX7_where_249 (by decide) ?_
                              refine lv_icmp_ne (tgt := 266) hx hb dX7_where_253 (by decide) (fun c_84 => ?_) (fun c_84 => ?_)
                              · exact absurd (by decide) c_84
                              · have c_84 : 1 = 1 := zc_eq (by decide) (by decide) c_84
                                refine lv_iload_n hx hb dX7_where_256 rfl (lv_at hl 3 rfl) ?_
                                refine lv_if_ne (tgt := 264) hx hb dX7_where_257 (by decide) (fun c_85 => ?_) (fun c_85 => ?_)
                                · have c_85 : par2 (eTg n X Y px.toInt py.toInt) i := zp_1 c_85
                                  refine lv_iconst (v := 0) hx hb dX7_where_264 (by decide) ?_
                                  refine lv_istore_n (lv' := [(3, .int 0), (6, .int (iI (eCr n X Y i px.toInt py.toInt))), (5, .int (nI (nxt n i))), (4, .int (nI i)), (0, .ref r), (1, .int px), (2, .int py)]) hx hb dX7_where_265 rfl hl (by decide) rfl (fun ls hl => ?_)
                                  refine lv_iinc (v := nI (i + 1)) (lv' := [(4, .int (nI (i + 1))), (3, .int 0), (6, .int (iI (eCr n X Y i px.toInt py.toInt))), (5, .int (nI (nxt n i))), (0, .ref r), (1, .int px), (2, .int py)]) hx hb dX7_where_266 hl (k := 3) rfl (nI_add i 1) (by decide) rfl (fun ls hl => ?_)
                                  refine lv_goto (tgt := 5) hx hb dX7_where_269 (by decide) ?_
                                  have hl9 := lv_sub hl [0, 1, 4, 5, 6] rfl
                                  have e9_3 : pI (par2 (eTg n X Y px.toInt py.toInt) (i + 1)) = (0 : Int32) := by first | exact zp_iff (par2_n (sk_tg (by omega)).1) | exact zp_iff (par2_n (by unfold eTg; omega)) | exact zp_t ((par2_y (by unfold eTg; omega)).mpr (by assumption)) | exact zp_f (fun q => (par2_y (by unfold eTg; omega)).mp q (by assumption))
                                  have hl9 : lv_has ls 7 [(4, .int (nI (i + 1))), (3, .int (pI (par2 (eTg n X Y px.toInt py.toInt) (i + 1)))), (0, .ref r), (1, .int px), (2, .int py)] := by rw [e9_3]; exact hl9
                                  exact ih_5 (i + 1) H locs ls (by omega) (by omega) (by intro k hk; rcases Nat.lt_or_ge k i with h | h; exact hno k h; have e9 : k = i := (by omega); subst e9; first | exact (sk_tg (by omega)).2 | (unfold eOn onS; unfold eCr at *; omega)) hP hD hS hl9
                                · have c_85 : ¬ (par2 (eTg n X Y px.toInt py.toInt) i) := zp_0 c_85
                                  refine lv_iconst (v := 1) hx hb dX7_where_260 (by decide) ?_
                                  refine lv_goto (tgt := 265) hx hb dX7_where_261 (by decide) ?_
                                  refine lv_istore_n (lv' := [(3, .int 1), (6, .int (iI (eCr n X Y i px.toInt py.toInt))), (5, .int (nI (nxt n i))), (4, .int (nI i)), (0, .ref r), (1, .int px), (2, .int py)]) hx hb dX7_where_265 rfl hl (by decide) rfl (fun ls hl => ?_)
                                  refine lv_iinc (v := nI (i + 1)) (lv' := [(4, .int (nI (i + 1))), (3, .int 1), (6, .int (iI (eCr n X Y i px.toInt py.toInt))), (5, .int (nI (nxt n i))), (0, .ref r), (1, .int px), (2, .int py)]) hx hb dX7_where_266 hl (k := 3) rfl (nI_add i 1) (by decide) rfl (fun ls hl => ?_)
                                  refine lv_goto (tgt := 5) hx hb dX7_where_269 (by decide) ?_
                                  have hl9 := lv_sub hl [0, 1, 4, 5, 6] rfl
                                  have e9_3 : pI (par2 (eTg n X Y px.toInt py.toInt) (i + 1)) = (1 : Int32) := by first | exact zp_iff (par2_n (sk_tg (by omega)).1) | exact zp_iff (par2_n (by unfold eTg; omega)) | exact zp_t ((par2_y (by unfold eTg; omega)).mpr (by assumption)) | exact zp_f (fun q => (par2_y (by unfold eTg; omega)).mp q (by assumption))
                                  have hl9 : lv_has ls 7 [(4, .int (nI (i + 1))), (3, .int (pI (par2 (eTg n X Y px.toInt py.toInt) (i + 1)))), (0, .ref r), (1, .int px), (2, .int py)] := by rw [e9_3]; exact hl9
                                  exact ih_5 (i + 1) H locs ls (by omega) (by omega) (by intro k hk; rcases Nat.lt_or_ge k i with h | h; exact hno k h; have e9 : k = i := (by omega); subst e9; first | exact (sk_tg (by omega)).2 | (unfold eOn onS; unfold eCr at *; omega)) hP hD hS hl9
                      · have c_75 : py.toInt < (Y (nxt n i)).toInt := zc_nle rfl rfl c_75
                        refine lv_iconst (v := 1) hx hb dX7_where_213 (by decide) ?_
                        refine lv_goto (tgt := 218) hx hb dX7_where_214 (by decide) ?_
                        refine lv_icmp_eq (tgt := 266) hx hb dX7_where_218 (by decide) (fun c_86 => ?_) (fun c_86 => ?_)
                        · have c_86 : 1 = 1 := zc_eq (by decide) (by decide) c_86
                          refine lv_iinc (v := nI (i + 1)) (lv' := [(4, .int (nI (i + 1))), (6, .int (iI (eCr n X Y i px.toInt py.toInt))), (5, .int (nI (nxt n i))), (3, .int (pI (par2 (eTg n X Y px.toInt py.toInt) i))), (0, .ref r), (1, .int px), (2, .int py)]) hx hb dX7_where_266 hl (k := 2) rfl (nI_add i 1) (by decide) rfl (fun ls hl => ?_)
                          refine lv_goto (tgt := 5) hx hb dX7_where_269 (by decide) ?_
                          have hl9 := lv_sub hl [0, 3, 4, 5, 6] rfl
                          have e9_3 : pI (par2 (eTg n X Y px.toInt py.toInt) (i + 1)) = (pI (par2 (eTg n X Y px.toInt py.toInt) i) : Int32) := by first | exact zp_iff (par2_n (sk_tg (by omega)).1) | exact zp_iff (par2_n (by unfold eTg; omega)) | exact zp_t ((par2_y (by unfold eTg; omega)).mpr (by assumption)) | exact zp_f (fun q => (par2_y (by unfold eTg; omega)).mp q (by assumption))
                          have hl9 : lv_has ls 7 [(4, .int (nI (i + 1))), (3, .int (pI (par2 (eTg n X Y px.toInt py.toInt) (i + 1)))), (0, .ref r), (1, .int px), (2, .int py)] := by rw [e9_3]; exact hl9
                          exact ih_5 (i + 1) H locs ls (by omega) (by omega) (by intro k hk; rcases Nat.lt_or_ge k i with h | h; exact hno k h; have e9 : k = i := (by omega); subst e9; first | exact (sk_tg (by omega)).2 | (unfold eOn onS; unfold eCr at *; omega)) hP hD hS hl9
                        · exact absurd (by decide) c_86
                  · have c_61 : (eCr n X Y i px.toInt py.toInt) = 0 := zc_eq (iI_toInt (by omega)) (by decide) c_61
                    refine lv_aload_n hx hb dX7_where_162 rfl (lv_at hl 4 rfl) ?_
                    refine va_get (D := (dC, dI)) (ci := 6) (v := .ref rx) (C := RX7) (T := TX7) (N := 4) hx hb hts inX7 hown hK hP 0 rfl rfl 0 (by decide) (hts _ mw_161) (fun _ h9 => h9) rfl dX7_where_163 ?_
                    refine lv_iload hx hb dX7_where_166 (lv_at hl 2 rfl) ?_
                    refine z_iald hx hb hK hP 1 0 rfl rfl (e := i) rfl (by omega) (by omega) dX7_where_168 ?_
                    refine lv_iload_n hx hb dX7_where_169 rfl (lv_at hl 5 rfl) ?_
                    refine lv_icmp_le (tgt := 184) hx hb dX7_where_170 (by decide) (fun c_87 => ?_) (fun c_87 => ?_)
                    · have c_87 : (X i).toInt ≤ px.toInt := zc_le rfl rfl c_87
                      refine lv_iconst (v := 2) hx hb dX7_where_184 (by decide) ?_
                      have hP9 := hP.sub (ws' := [(r, .inr (6, [.ref rx, .ref ry, .int (nI n), .int rg])), (rx, .inl (cI, cap, .inl X)), (ry, .inl (cI, cap, .inl Y))]) [0, 1, 2] rfl
                      have hD9 := hD.sub (ws' := [(r, .inr (6, [.ref rx, .ref ry, .int (nI n), .int rg])), (rx, .inl (cI, cap, .inl X)), (ry, .inl (cI, cap, .inl Y))]) [0, 1, 2] (by decide) rfl
                      rw [hQ9]
                      exact W.iret (v := 2) hx hb hr (fun t ht hW => ⟨⟨congrArg (fun z => Outcome.returned (some (Value.int z))) (show (2 : Int32) = whr n X Y px.toInt py.toInt from (whr_2 ⟨i, by omega, by unfold eOn onS; unfold eCr at *; omega⟩).symm), by rw [ht]; exact hP9, hD9⟩, hS.F ht⟩) hS.2.2 dX7_where_185
                    · have c_87 : px.toInt < (X i).toInt := zc_nle rfl rfl c_87
                      refine lv_aload_n hx hb dX7_where_173 rfl (lv_at hl 4 rfl) ?_
                      refine va_get (D := (dC, dI)) (ci := 6) (v := .ref rx) (C := RX7) (T := TX7) (N := 4) hx hb hts inX7 hown hK hP 0 rfl rfl 0 (by decide) (hts _ mw_161) (fun _ h9 => h9) rfl dX7_where_174 ?_
                      refine lv_iload hx hb dX7_where_177 (lv_at hl 1 rfl) ?_
                      refine z_iald hx hb hK hP 1 0 rfl rfl (e := nxt n i) rfl (by omega) (by omega) dX7_where_179 ?_
                      refine lv_iload_n hx hb dX7_where_180 rfl (lv_at hl 5 rfl) ?_
                      refine lv_icmp_gt (tgt := 186) hx hb dX7_where_181 (by decide) (fun c_88 => ?_) (fun c_88 => ?_)
                      · have c_88 : px.toInt < (X (nxt n i)).toInt := zc_lt rfl rfl c_88
                        refine lv_aload_n hx hb dX7_where_186 rfl (lv_at hl 4 rfl) ?_
                        refine va_get (D := (dC, dI)) (ci := 6) (v := .ref ry) (C := RX7) (T := TX7) (N := 4) hx hb hts inX7 hown hK hP 0 rfl rfl 1 (by decide) (hts _ mw_168) (fun _ h9 => h9) rfl dX7_where_187 ?_
                        refine lv_iload hx hb dX7_where_190 (lv_at hl 2 rfl) ?_
                        refine z_iald hx hb hK hP 2 0 rfl rfl (e := i) rfl (by omega) (by omega) dX7_where_192 ?_
                        refine lv_iload_n hx hb dX7_where_193 rfl (lv_at hl 6 rfl) ?_
                        refine lv_icmp_le (tgt := 201) hx hb dX7_where_194 (by decide) (fun c_89 => ?_) (fun c_89 => ?_)
                        · have c_89 : (Y i).toInt ≤ py.toInt := zc_le rfl rfl c_89
                          refine lv_iconst (v := 0) hx hb dX7_where_201 (by decide) ?_
                          refine lv_aload_n hx hb dX7_where_202 rfl (lv_at hl 4 rfl) ?_
                          refine va_get (D := (dC, dI)) (ci := 6) (v := .ref ry) (C := RX7) (T := TX7) (N := 4) hx hb hts inX7 hown hK hP 0 rfl rfl 1 (by decide) (hts _ mw_168) (fun _ h9 => h9) rfl dX7_where_203 ?_
                          refine lv_iload hx hb dX7_where_206 (lv_at hl 1 rfl) ?_
                          refine z_iald hx hb hK hP 2 0 rfl rfl (e := nxt n i) rfl (by omega) (by omega) dX7_where_208 ?_
                          refine lv_iload_n hx hb dX7_where_209 rfl (lv_at hl 6 rfl) ?_
                          refine lv_icmp_le (tgt := 217) hx hb dX7_where_210 (by decide) (fun c_90 => ?_) (fun c_90 => ?_)
                          · have c_90 : (Y (nxt n i)).toInt ≤ py.toInt := zc_le rfl rfl c_90
                            refine lv_iconst (v := 0) hx hb dX7_where_217 (by decide) ?_
                            refine lv_icmp_eq (tgt := 266) hx hb dX7_where_218 (by decide) (fun c_91 => ?_) (fun c_91 => ?_)
                            · have c_91 : 0 = 0 := zc_eq (by decide) (by decide) c_91
                              refine lv_iinc (v := nI (i + 1)) (lv' := [(4, .int (nI (i + 1))), (6, .int (iI (eCr n X Y i px.toInt py.toInt))), (5, .int (nI (nxt n i))), (3, .int (pI (par2 (eTg n X Y px.toInt py.toInt) i))), (0, .ref r), (1, .int px), (2, .int py)]) hx hb dX7_where_266 hl (k := 2) rfl (nI_add i 1) (by decide) rfl (fun ls hl => ?_)
                              refine lv_goto (tgt := 5) hx hb dX7_where_269 (by decide) ?_
                              have hl9 := lv_sub hl [0, 3, 4, 5, 6] rfl
                              have e9_3 : pI (par2 (eTg n X Y px.toInt py.toInt) (i + 1)) = (pI (par2 (eTg n X Y px.toInt py.toInt) i) : Int32) := by first | exact zp_iff (par2_n (sk_tg (by omega)).1) | exact zp_iff (par2_n (by unfold eTg; omega)) | exact zp_t ((par2_y (by unfold eTg; omega)).mpr (by assumption)) | exact zp_f (fun q => (par2_y (by unfold eTg; omega)).mp q (by assumption))
                              have hl9 : lv_has ls 7 [(4, .int (nI (i + 1))), (3, .int (pI (par2 (eTg n X Y px.toInt py.toInt) (i + 1)))), (0, .ref r), (1, .int px), (2, .int py)] := by rw [e9_3]; exact hl9
                              exact ih_5 (i + 1) H locs ls (by omega) (by omega) (by intro k hk; rcases Nat.lt_or_ge k i with h | h; exact hno k h; have e9 : k = i := (by omega); subst e9; first | exact (sk_tg (by omega)).2 | (unfold eOn onS; unfold eCr at *; omega)) hP hD hS hl9
                            · exact absurd (by decide) c_91
                          · have c_90 : py.toInt < (Y (nxt n i)).toInt := zc_nle rfl rfl c_90
                            refine lv_iconst (v := 1) hx hb dX7_where_213 (by decide) ?_
                            refine lv_goto (tgt := 218) hx hb dX7_where_214 (by decide) ?_
                            refine lv_icmp_eq (tgt := 266) hx hb dX7_where_218 (by decide) (fun c_92 => ?_) (fun c_92 => ?_)
                            · exact absurd c_92 (by decide)
                            · have c_92 : ¬ 0 = 1 := zc_ne (by decide) (by decide) c_92
                              refine lv_iload hx hb dX7_where_221 (lv_at hl 0 rfl) ?_
                              refine lv_if_le (tgt := 230) hx hb dX7_where_223 (by decide) (fun c_93 => ?_) (fun c_93 => ?_)
                              · have c_93 : (eCr n X Y i px.toInt py.toInt) ≤ 0 := zc_le (iI_toInt (by omega)) (by decide) c_93
                                refine lv_iconst (v := 0) hx hb dX7_where_230 (by decide) ?_
                                refine lv_aload_n hx hb dX7_where_231 rfl (lv_at hl 4 rfl) ?_
                                refine va_get (D := (dC, dI)) (ci := 6) (v := .ref ry) (C := RX7) (T := TX7) (N := 4) hx hb hts inX7 hown hK hP 0 rfl rfl 1 (by decide) (hts _ mw_168) (fun _ h9 => h9) rfl dX7_where_232 ?_
                                refine lv_iload hx hb dX7_where_235 (lv_at hl 1 rfl) ?_
                                refine z_iald hx hb hK hP 2 0 rfl rfl (e := nxt n i) rfl (by omega) (by omega) dX7_where_237 ?_
                                refine lv_aload_n hx hb dX7_where_238 rfl (lv_at hl 4 rfl) ?_
                                refine va_get (D := (dC, dI)) (ci := 6) (v := .ref ry) (C := RX7) (T := TX7) (N := 4) hx hb hts inX7 hown hK hP 0 rfl rfl 1 (by decide) (hts _ mw_168) (fun _ h9 => h9) rfl dX7_where_239 ?_
                                refine lv_iload hx hb dX7_where_242 (lv_at hl 2 rfl) ?_
                                refine z_iald hx hb hK hP 2 0 rfl rfl (e := i) rfl (by omega) (by omega) dX7_where_244 ?_
                                refine lv_icmp_le (tgt := 252) hx hb dX7_where_245 (by decide) (fun c_94 => ?_) (fun c_94 => ?_)
                                · have c_94 : (Y (nxt n i)).toInt ≤ (Y i).toInt := zc_le rfl rfl c_94
                                  refine lv_iconst (v := 0) hx hb dX7_where_252 (by decide) ?_
                                  refine lv_icmp_ne (tgt := 266) hx hb dX7_where_253 (by decide) (fun c_95 => ?_) (fun c_95 => ?_)
                                  · exact absurd (by decide) c_95
                                  · have c_95 : 0 = 0 := zc_eq (by decide) (by decide) c_95
                                    refine lv_iload_n hx hb dX7_where_256 rfl (lv_at hl 3 rfl) ?_
                                    refine lv_if_ne (tgt := 264) hx hb dX7_where_257 (by decide) (fun c_96 => ?_) (fun c_96 => ?_)
                                    · have c_96 : par2 (eTg n X Y px.toInt py.toInt) i := zp_1 c_96
                                      refine lv_iconst (v := 0) hx hb dX7_where_264 (by decide) ?_
                                      refine lv_istore_n (lv' := [(3, .int 0), (6, .int (iI (eCr n X Y i px.toInt py.toInt))), (5, .int (nI (nxt n i))), (4, .int (nI i)), (0, .ref r), (1, .int px), (2, .int py)]) hx hb dX7_where_265 rfl hl (by decide) rfl (fun ls hl => ?_)
                                      refine lv_iinc (v := nI (i + 1)) (lv' := [(4, .int (nI (i + 1))), (3, .int 0), (6, .int (iI (eCr n X Y i px.toInt py.toInt))), (5, .int (nI (nxt n i))), (0, .ref r), (1, .int px), (2, .int py)]) hx hb dX7_where_266 hl (k := 3) rfl (nI_add i 1) (by decide) rfl (fun ls hl => ?_)
                                      refine lv_goto (tgt := 5) hx hb dX7_where_269 (by decide) ?_
                                      have hl9 := lv_sub hl [0, 1, 4, 5, 6] rfl
                                      have e9_3 : pI (par2 (eTg n X Y px.toInt py.toInt) (i + 1)) = (0 : Int32) := by first | exact zp_iff (par2_n (sk_tg (by omega)).1) | exact zp_iff (par2_n (by unfold eTg; omega)) | exact zp_t ((par2_y (by unfold eTg; omega)).mpr (by assumption)) | exact zp_f (fun q => (par2_y (by unfold eTg; omega)).mp q (by assumption))
                                      have hl9 : lv_has ls 7 [(4, .int (nI (i + 1))), (3, .int (pI (par2 (eTg n X Y px.toInt py.toInt) (i + 1)))), (0, .ref r), (1, .int px), (2, .int py)] := by rw [e9_3]; exact hl9
                                      exact ih_5 (i + 1) H locs ls (by omega) (by omega) (by intro k hk; rcases Nat.lt_or_ge k i with h | h; exact hno k h; have e9 : k = i := (by omega); subst e9; first | exact (sk_tg (by omega)).2 | (unfold eOn onS; unfold eCr at *; omega)) hP hD hS hl9
                                    · have c_96 : ¬ (par2 (eTg n X Y px.toInt py.toInt) i) := zp_0 c_96
                                      refine lv_iconst (v := 1) hx hb dX7_where_260 (by decide) ?_
                                      refine lv_goto (tgt := 265) hx hb dX7_where_261 (by decide) ?_
                                      refine lv_istore_n (lv' := [(3, .int 1), (6, .int (iI (eCr n X Y i px.toInt py.toInt))), (5, .int (nI (nxt n i))), (4, .int (nI i)), (0, .ref r), (1, .int px), (2, .int py)]) hx hb dX7_where_265 rfl hl (by decide) rfl (fun ls hl => ?_)
                                      refine lv_iinc (v := nI (i + 1)) (lv' := [(4, .int (nI (i + 1))), (3, .int 1), (6, .int (iI (eCr n X Y i px.toInt py.toInt))), (5, .int (nI (nxt n i))), (0, .ref r), (1, .int px), (2, .int py)]) hx hb dX7_where_266 hl (k := 3) rfl (nI_add i 1) (by decide) rfl (fun ls hl => ?_)
                                      refine lv_goto (tgt := 5) hx hb dX7_where_269 (by decide) ?_
                                      have hl9 := lv_sub hl [0, 1, 4, 5, 6] rfl
                                      have e9_3 : pI (par2 (eTg n X Y px.toInt py.toInt) (i + 1)) = (1 : Int32) := by first | exact zp_iff (par2_n (sk_tg (by omega)).1) | exact zp_iff (par2_n (by unfold eTg; omega)) | exact zp_t ((par2_y (by unfold eTg; omega)).mpr (by assumption)) | exact zp_f (fun q => (par2_y (by unfold eTg; omega)).mp q (by assumption))
                                      have hl9 : lv_has ls 7 [(4, .int (nI (i + 1))), (3, .int (pI (par2 (eTg n X Y px.toInt py.toInt) (i + 1)))), (0, .ref r), (1, .int px), (2, .int py)] := by rw [e9_3]; exact hl9
                                      exact ih_5 (i + 1) H locs ls (by omega) (by omega) (by intro k hk; rcases Nat.lt_or_ge k i with h | h; exact hno k h; have e9 : k = i := (by omega); subst e9; first | exact (sk_tg (by omega)).2 | (unfold eOn onS; unfold eCr at *; omega)) hP hD hS hl9
                                · have c_94 : (Y i).toInt < (Y (nxt n i)).toInt := zc_nle rfl rfl c_94
                                  refine lv_iconst (v := 1) hx hb dX7_where_248 (by decide) ?_
                                  refine lv_goto (tgt := 253) hx hb dX7_where_249 (by decide) ?_
                                  refine lv_icmp_ne (tgt := 266) hx hb dX7_where_253 (by decide) (fun c_97 => ?_) (fun c_97 => ?_)
                                  · have c_97 : ¬ 0 = 1 := zc_ne (by decide) (by decide) c_97
                                    refine lv_iinc (v := nI (i + 1)) (lv' := [(4, .int (nI (i + 1))), (6, .int (iI (eCr n X Y i px.toInt py.toInt))), (5, .int (nI (nxt n i))), (3, .int (pI (par2 (eTg n X Y px.toInt py.toInt) i))), (0, .ref r), (1, .int px), (2, .int py)]) hx hb dX7_where_266 hl (k := 2) rfl (nI_add i 1) (by decide) rfl (fun ls hl => ?_)
                                    refine lv_goto (tgt := 5) hx hb dX7_where_269 (by decide) ?_
                                    have hl9 := lv_sub hl [0, 3, 4, 5, 6] rfl
                                    have e9_3 : pI (par2 (eTg n X Y px.toInt py.toInt) (i + 1)) = (pI (par2 (eTg n X Y px.toInt py.toInt) i) : Int32) := by first | exact zp_iff (par2_n (sk_tg (by omega)).1) | exact zp_iff (par2_n (by unfold eTg; omega)) | exact zp_t ((par2_y (by unfold eTg; omega)).mpr (by assumption)) | exact zp_f (fun q => (par2_y (by unfold eTg; omega)).mp q (by assumption))
                                    have hl9 : lv_has ls 7 [(4, .int (nI (i + 1))), (3, .int (pI (par2 (eTg n X Y px.toInt py.toInt) (i + 1)))), (0, .ref r), (1, .int px), (2, .int py)] := by rw [e9_3]; exact hl9
                                    exact ih_5 (i + 1) H locs ls (by omega) (by omega) (by intro k hk; rcases Nat.lt_or_ge k i with h | h; exact hno k h; have e9 : k = i := (by omega); subst e9; first | exact (sk_tg (by omega)).2 | (unfold eOn onS; unfold eCr at *; omega)) hP hD hS hl9
                                  · exact absurd c_97 (by decide)
                              · have c_93 : 0 < (eCr n X Y i px.toInt py.toInt) := zc_nle (iI_toInt (by omega)) (by decide) c_93
                                refine lv_iconst (v := 1) hx hb dX7_where_226 (by decide) ?_
                                refine lv_goto (tgt := 231) hx hb dX7_where_227 (by decide) ?_
                                refine lv_aload_n hx hb dX7_where_231 rfl (lv_at hl 4 rfl) ?_
                                refine va_get (D := (dC, dI)) (ci := 6) (v := .ref ry) (C := RX7) (T := TX7) (N := 4) hx hb hts inX7 hown hK hP 0 rfl rfl 1 (by decide) (hts _ mw_168) (fun _ h9 => h9) rfl dX7_where_232 ?_
                                refine lv_iload hx hb dX7_where_235 (lv_at hl 1 rfl) ?_
                                refine z_iald hx hb hK hP 2 0 rfl rfl (e := nxt n i) rfl (by omega) (by omega) dX7_where_237 ?_
                                refine lv_aload_n hx hb dX7_where_238 rfl (lv_at hl 4 rfl) ?_
                                refine va_get (D := (dC, dI)) (ci := 6) (v := .ref ry) (C := RX7) (T := TX7) (N := 4) hx hb hts inX7 hown hK hP 0 rfl rfl 1 (by decide) (hts _ mw_168) (fun _ h9 => h9) rfl dX7_where_239 ?_
                                refine lv_iload hx hb dX7_where_242 (lv_at hl 2 rfl) ?_
                                refine z_iald hx hb hK hP 2 0 rfl rfl (e := i) rfl (by omega) (by omega) dX7_where_244 ?_
                                refine lv_icmp_le (tgt := 252) hx hb dX7_where_245 (by decide) (fun c_98 => ?_) (fun c_98 => ?_)
                                · have c_98 : (Y (nxt n i)).toInt ≤ (Y i).toInt := zc_le rfl rfl c_98
                                  refine lv_iconst (v := 0) hx hb dX7_where_252 (by decide) ?_
                                  refine lv_icmp_ne (tgt := 266) hx hb dX7_where_253 (by decide) (fun c_99 => ?_) (fun c_99 => ?_)
                                  · have c_99 : ¬ 1 = 0 := zc_ne (by decide) (by decide) c_99
                                    refine lv_iinc (v := nI (i + 1)) (lv' := [(4, .int (nI (i + 1))), (6, .int (iI (eCr n X Y i px.toInt py.toInt))), (5, .int (nI (nxt n i))), (3, .int (pI (par2 (eTg n X Y px.toInt py.toInt) i))), (0, .ref r), (1, .int px), (2, .int py)]) hx hb dX7_where_266 hl (k := 2) rfl (nI_add i 1) (by decide) rfl (fun ls hl => ?_)
                                    refine lv_goto (tgt := 5) hx hb dX7_where_269 (by decide) ?_
                                    have hl9 := lv_sub hl [0, 3, 4, 5, 6] rfl
                                    have e9_3 : pI (par2 (eTg n X Y px.toInt py.toInt) (i + 1)) = (pI (par2 (eTg n X Y px.toInt py.toInt) i) : Int32) := by first | exact zp_iff (par2_n (sk_tg (by omega)).1) | exact zp_iff (par2_n (by unfold eTg; omega)) | exact zp_t ((par2_y (by unfold eTg; omega)).mpr (by assumption)) | exact zp_f (fun q => (par2_y (by unfold eTg; omega)).mp q (by assumption))
                                    have hl9 : lv_has ls 7 [(4, .int (nI (i + 1))), (3, .int (pI (par2 (eTg n X Y px.toInt py.toInt) (i + 1)))), (0, .ref r), (1, .int px), (2, .int py)] := by rw [e9_3]; exact hl9
                                    exact ih_5 (i + 1) H locs ls (by omega) (by omega) (by intro k hk; rcases Nat.lt_or_ge k i with h | h; exact hno k h; have e9 : k = i := (by omega); subst e9; first | exact (sk_tg (by omega)).2 | (unfold eOn onS; unfold eCr at *; omega)) hP hD hS hl9
                                  · exact absurd c_99 (by decide)
                                · have c_98 : (Y i).toInt < (Y (nxt n i)).toInt := zc_nle rfl rfl c_98
                                  refine lv_iconst (v := 1) hx hb dX7_where_248 (by decide) ?_
                                  refine lv_goto (tgt := 253) hx hb dX7_where_249 (by decide) ?_
                                  refine lv_icmp_ne (tgt := 266) hx hb dX7_where_253 (by decide) (fun c_100 => ?_) (fun c_100 => ?_)
                                  · exact absurd (by decide) c_100
                                  · have c_100 : 1 = 1 := zc_eq (by decide) (by decide) c_100
                                    refine lv_iload_n hx hb dX7_where_256 rfl (lv_at hl 3 rfl) ?_
                                    refine lv_if_ne (tgt := 264) hx hb dX7_where_257 (by decide) (fun c_101 => ?_) (fun c_101 => ?_)
                                    · have c_101 : par2 (eTg n X Y px.toInt py.toInt) i := zp_1 c_101
                                      refine lv_iconst (v := 0) hx hb dX7_where_264 (by decide) ?_
                                      refine lv_istore_n (lv' := [(3, .int 0), (6, .int (iI (eCr n X Y i px.toInt py.toInt))), (5, .int (nI (nxt n i))), (4, .int (nI i)), (0, .ref r), (1, .int px), (2, .int py)]) hx hb dX7_where_265 rfl hl (by decide) rfl (fun ls hl => ?_)
                                      refine lv_iinc (v := nI (i + 1)) (lv' := [(4, .int (nI (i + 1))), (3, .int 0), (6, .int (iI (eCr n X Y i px.toInt py.toInt))), (5, .int (nI (nxt n i))), (0, .ref r), (1, .int px), (2, .int py)]) hx hb dX7_where_266 hl (k := 3) rfl (nI_add i 1) (by decide) rfl (fun ls hl => ?_)
                                      refine lv_goto (tgt := 5) hx hb dX7_where_269 (by decide) ?_
                                      have hl9 := lv_sub hl [0, 1, 4, 5, 6] rfl
                                      have e9_3 : pI (par2 (eTg n X Y px.toInt py.toInt) (i + 1)) = (0 : Int32) := by first | exact zp_iff (par2_n (sk_tg (by omega)).1) | exact zp_iff (par2_n (by unfold eTg; omega)) | exact zp_t ((par2_y (by unfold eTg; omega)).mpr (by assumption)) | exact zp_f (fun q => (par2_y (by unfold eTg; omega)).mp q (by assumption))
                                      have hl9 : lv_has ls 7 [(4, .int (nI (i + 1))), (3, .int (pI (par2 (eTg n X Y px.toInt py.toInt) (i + 1)))), (0, .ref r), (1, .int px), (2, .int py)] := by rw [e9_3]; exact hl9
                                      exact ih_5 (i + 1) H locs ls (by omega) (by omega) (by intro k hk; rcases Nat.lt_or_ge k i with h | h; exact hno k h; have e9 : k = i := (by omega); subst e9; first | exact (sk_tg (by omega)).2 | (unfold eOn onS; unfold eCr at *; omega)) hP hD hS hl9
                                    · have c_101 : ¬ (par2 (eTg n X Y px.toInt py.toInt) i) := zp_0 c_101
                                      refine lv_iconst (v := 1) hx hb dX7_where_260 (by decide) ?_
                                      refine lv_goto (tgt := 265) hx hb dX7_where_261 (by decide) ?_
                                      refine lv_istore_n (lv' := [(3, .int 1), (6, .int (iI (eCr n X Y i px.toInt py.toInt))), (5, .int (nI (nxt n i))), (4, .int (nI i)), (0, .ref r), (1, .int px), (2, .int py)]) hx hb dX7_where_265 rfl hl (by decide) rfl (fun ls hl => ?_)
                                      refine lv_iinc (v := nI (i + 1)) (lv' := [(4, .int (nI (i + 1))), (3, .int 1), (6, .int (iI (eCr n X Y i px.toInt py.toInt))), (5, .int (nI (nxt n i))), (0, .ref r), (1, .int px), (2, .int py)]) hx hb dX7_where_266 hl (k := 3) rfl (nI_add i 1) (by decide) rfl (fun ls hl => ?_)
                                      refine lv_goto (tgt := 5) hx hb dX7_where_269 (by decide) ?_
                                      have hl9 := lv_sub hl [0, 1, 4, 5, 6] rfl
                                      have e9_3 : pI (par2 (eTg n X Y px.toInt py.toInt) (i + 1)) = (1 : Int32) := by first | exact zp_iff (par2_n (sk_tg (by omega)).1) | exact zp_iff (par2_n (by unfold eTg; omega)) | exact zp_t ((par2_y (by unfold eTg; omega)).mpr (by assumption)) | exact zp_f (fun q => (par2_y (by unfold eTg; omega)).mp q (by assumption))
                                      have hl9 : lv_has ls 7 [(4, .int (nI (i + 1))), (3, .int (pI (par2 (eTg n X Y px.toInt py.toInt) (i + 1)))), (0, .ref r), (1, .int px), (2, .int py)] := by rw [e9_3]; exact hl9
                                      exact ih_5 (i + 1) H locs ls (by omega) (by omega) (by intro k hk; rcases Nat.lt_or_ge k i with h | h; exact hno k h; have e9 : k = i := (by omega); subst e9; first | exact (sk_tg (by omega)).2 | (unfold eOn onS; unfold eCr at *; omega)) hP hD hS hl9
                        · have c_89 : py.toInt < (Y i).toInt := zc_nle rfl rfl c_89
                          refine lv_iconst (v := 1) hx hb dX7_where_197 (by decide) ?_
                          refine lv_goto (tgt := 202) hx hb dX7_where_198 (by decide) ?_
                          refine lv_aload_n hx hb dX7_where_202 rfl (lv_at hl 4 rfl) ?_
                          refine va_get (D := (dC, dI)) (ci := 6) (v := .ref ry) (C := RX7) (T := TX7) (N := 4) hx hb hts inX7 hown hK hP 0 rfl rfl 1 (by decide) (hts _ mw_168) (fun _ h9 => h9) rfl dX7_where_203 ?_
                          refine lv_iload hx hb dX7_where_206 (lv_at hl 1 rfl) ?_
                          refine z_iald hx hb hK hP 2 0 rfl rfl (e := nxt n i) rfl (by omega) (by omega) dX7_where_208 ?_
                          refine lv_iload_n hx hb dX7_where_209 rfl (lv_at hl 6 rfl) ?_
                          refine lv_icmp_le (tgt := 217) hx hb dX7_where_210 (by decide) (fun c_102 => ?_) (fun c_102 => ?_)
                          · have c_102 : (Y (nxt n i)).toInt ≤ py.toInt := zc_le rfl rfl c_102
                            refine lv_iconst (v := 0) hx hb dX7_where_217 (by decide) ?_
                            refine lv_icmp_eq (tgt := 266) hx hb dX7_where_218 (by decide) (fun c_103 => ?_) (fun c_103 => ?_)
                            · exact absurd c_103 (by decide)
                            · have c_103 : ¬ 1 = 0 := zc_ne (by decide) (by decide) c_103
                              refine lv_iload hx hb dX7_where_221 (lv_at hl 0 rfl) ?_
                              refine lv_if_le (tgt := 230) hx hb dX7_where_223 (by decide) (fun c_104 => ?_) (fun c_104 => ?_)
                              · have c_104 : (eCr n X Y i px.toInt py.toInt) ≤ 0 := zc_le (iI_toInt (by omega)) (by decide) c_104
                                refine lv_iconst (v := 0) hx hb dX7_where_230 (by decide) ?_
                                refine lv_aload_n hx hb dX7_where_231 rfl (lv_at hl 4 rfl) ?_
                                refine va_get (D := (dC, dI)) (ci := 6) (v := .ref ry) (C := RX7) (T := TX7) (N := 4) hx hb hts inX7 hown hK hP 0 rfl rfl 1 (by decide) (hts _ mw_168) (fun _ h9 => h9) rfl dX7_where_232 ?_
                                refine lv_iload hx hb dX7_where_235 (lv_at hl 1 rfl) ?_
                                refine z_iald hx hb hK hP 2 0 rfl rfl (e := nxt n i) rfl (by omega) (by omega) dX7_where_237 ?_
                                refine lv_aload_n hx hb dX7_where_238 rfl (lv_at hl 4 rfl) ?_
                                refine va_get (D := (dC, dI)) (ci := 6) (v := .ref ry) (C := RX7) (T := TX7) (N := 4) hx hb hts inX7 hown hK hP 0 rfl rfl 1 (by decide) (hts _ mw_168) (fun _ h9 => h9) rfl dX7_where_239 ?_
                                refine lv_iload hx hb dX7_where_242 (lv_at hl 2 rfl) ?_
                                refine z_iald hx hb hK hP 2 0 rfl rfl (e := i) rfl (by omega) (by omega) dX7_where_244 ?_
                                refine lv_icmp_le (tgt := 252) hx hb dX7_where_245 (by decide) (fun c_105 => ?_) (fun c_105 => ?_)
                                · have c_105 : (Y (nxt n i)).toInt ≤ (Y i).toInt := zc_le rfl rfl c_105
                                  refine lv_iconst (v := 0) hx hb dX7_where_252 (by decide) ?_
                                  refine lv_icmp_ne (tgt := 266) hx hb dX7_where_253 (by decide) (fun c_106 => ?_) (fun c_106 => ?_)
                                  · exact absurd (by decide) c_106
                                  · have c_106 : 0 = 0 := zc_eq (by decide) (by decide) c_106
                                    refine lv_iload_n hx hb dX7_where_256 rfl (lv_at hl 3 rfl) ?_
                                    refine lv_if_ne (tgt := 264) hx hb dX7_where_257 (by decide) (fun c_107 => ?_) (fun c_107 => ?_)
                                    · have c_107 : par2 (eTg n X Y px.toInt py.toInt) i := zp_1 c_107
                                      refine lv_iconst (v := 0) hx hb dX7_where_264 (by decide) ?_
                                      refine lv_istore_n (lv' := [(3, .int 0), (6, .int (iI (eCr n X Y i px.toInt py.toInt))), (5, .int (nI (nxt n i))), (4, .int (nI i)), (0, .ref r), (1, .int px), (2, .int py)]) hx hb dX7_where_265 rfl hl (by decide) rfl (fun ls hl => ?_)
                                      refine lv_iinc (v := nI (i + 1)) (lv' := [(4, .int (nI (i + 1))), (3, .int 0), (6, .int (iI (eCr n X Y i px.toInt py.toInt))), (5, .int (nI (nxt n i))), (0, .ref r), (1, .int px), (2, .int py)]) hx hb dX7_where_266 hl (k := 3) rfl (nI_add i 1) (by decide) rfl (fun ls hl => ?_)
                                      refine lv_goto (tgt := 5) hx hb dX7_where_269 (by decide) ?_
                                      have hl9 := lv_sub hl [0, 1, 4, 5, 6] rfl
                                      have e9_3 : pI (par2 (eTg n X Y px.toInt py.toInt) (i + 1)) = (0 : Int32) := by first | exact zp_iff (par2_n (sk_tg (by omega)).1) | exact zp_iff (par2_n (by unfold eTg; omega)) | exact zp_t ((par2_y (by unfold eTg; omega)).mpr (by assumption)) | exact zp_f (fun q => (par2_y (by unfold eTg; omega)).mp q (by assumption))
                                      have hl9 : lv_has ls 7 [(4, .int (nI (i + 1))), (3, .int (pI (par2 (eTg n X Y px.toInt py.toInt) (i + 1)))), (0, .ref r), (1, .int px), (2, .int py)] := by rw [e9_3]; exact hl9
                                      exact ih_5 (i + 1) H locs ls (by omega) (by omega) (by intro k hk; rcases Nat.lt_or_ge k i with h | h; exact hno k h; have e9 : k = i := (by omega); subst e9; first | exact (sk_tg (by omega)).2 | (unfold eOn onS; unfold eCr at *; omega)) hP hD hS hl9
                                    · have c_107 : ¬ (par2 (eTg n X Y px.toInt py.toInt) i) := zp_0 c_107
                                      refine lv_iconst (v := 1) hx hb dX7_where_260 (by decide) ?_
                                      refine lv_goto (tgt := 265) hx hb dX7_where_261 (by decide) ?_
                                      refine lv_istore_n (lv' := [(3, .int 1), (6, .int (iI (eCr n X Y i px.toInt py.toInt))), (5, .int (nI (nxt n i))), (4, .int (nI i)), (0, .ref r), (1, .int px), (2, .int py)]) hx hb dX7_where_265 rfl hl (by decide) rfl (fun ls hl => ?_)
                                      refine lv_iinc (v := nI (i + 1)) (lv' := [(4, .int (nI (i + 1))), (3, .int 1), (6, .int (iI (eCr n X Y i px.toInt py.toInt))), (5, .int (nI (nxt n i))), (0, .ref r), (1, .int px), (2, .int py)]) hx hb dX7_where_266 hl (k := 3) rfl (nI_add i 1) (by decide) rfl (fun ls hl => ?_)
                                      refine lv_goto (tgt := 5) hx hb dX7_where_269 (by decide) ?_
                                      have hl9 := lv_sub hl [0, 1, 4, 5, 6] rfl
                                      have e9_3 : pI (par2 (eTg n X Y px.toInt py.toInt) (i + 1)) = (1 : Int32) := by first | exact zp_iff (par2_n (sk_tg (by omega)).1) | exact zp_iff (par2_n (by unfold eTg; omega)) | exact zp_t ((par2_y (by unfold eTg; omega)).mpr (by assumption)) | exact zp_f (fun q => (par2_y (by unfold eTg; omega)).mp q (by assumption))
                                      have hl9 : lv_has ls 7 [(4, .int (nI (i + 1))), (3, .int (pI (par2 (eTg n X Y px.toInt py.toInt) (i + 1)))), (0, .ref r), (1, .int px), (2, .int py)] := by rw [e9_3]; exact hl9
                                      exact ih_5 (i + 1) H locs ls (by omega) (by omega) (by intro k hk; rcases Nat.lt_or_ge k i with h | h; exact hno k h; have e9 : k = i := (by omega); subst e9; first | exact (sk_tg (by omega)).2 | (unfold eOn onS; unfold eCr at *; omega)) hP hD hS hl9
                                · have c_105 : (Y i).toInt < (Y (nxt n i)).toInt := zc_nle rfl rfl c_105
                                  refine lv_iconst (v := 1) hx hb dX7_where_248 (by decide) ?_
                                  refine lv_goto (tgt := 253) hx hb dX7_where_249 (by decide) ?_
                                  refine lv_icmp_ne (tgt := 266) hx hb dX7_where_253 (by decide) (fun c_108 => ?_) (fun c_108 => ?_)
                                  · have c_108 : ¬ 0 = 1 := zc_ne (by decide) (by decide) c_108
                                    refine lv_iinc (v := nI (i + 1)) (lv' := [(4, .int (nI (i + 1))), (6, .int (iI (eCr n X Y i px.toInt py.toInt))), (5, .int (nI (nxt n i))), (3, .int (pI (par2 (eTg n X Y px.toInt py.toInt) i))), (0, .ref r), (1, .int px), (2, .int py)]) hx hb dX7_where_266 hl (k := 2) rfl (nI_add i 1) (by decide) rfl (fun ls hl => ?_)
                                    refine lv_goto (tgt := 5) hx hb dX7_where_269 (by decide) ?_
                                    have hl9 := lv_sub hl [0, 3, 4, 5, 6] rfl
                                    have e9_3 : pI (par2 (eTg n X Y px.toInt py.toInt) (i + 1)) = (pI (par2 (eTg n X Y px.toInt py.toInt) i) : Int32) := by first | exact zp_iff (par2_n (sk_tg (by omega)).1) | exact zp_iff (par2_n (by unfold eTg; omega)) | exact zp_t ((par2_y (by unfold eTg; omega)).mpr (by assumption)) | exact zp_f (fun q => (par2_y (by unfold eTg; omega)).mp q (by assumption))
                                    have hl9 : lv_has ls 7 [(4, .int (nI (i + 1))), (3, .int (pI (par2 (eTg n X Y px.toInt py.toInt) (i + 1)))), (0, .ref r), (1, .int px), (2, .int py)] := by rw [e9_3]; exact hl9
                                    exact ih_5 (i + 1) H locs ls (by omega) (by omega) (by intro k hk; rcases Nat.lt_or_ge k i with h | h; exact hno k h; have e9 : k = i := (by omega); subst e9; first | exact (sk_tg (by omega)).2 | (unfold eOn onS; unfold eCr at *; omega)) hP hD hS hl9
                                  · exact absurd c_108 (by decide)
                              · have c_104 : 0 < (eCr n X Y i px.toInt py.toInt) := zc_nle (iI_toInt (by omega)) (by decide) c_104
                                refine lv_iconst (v := 1) hx hb dX7_where_226 (by decide) ?_
                                refine lv_goto (tgt := 231) hx hb dX7_where_227 (by decide) ?_
                                refine lv_aload_n hx hb dX7_where_231 rfl (lv_at hl 4 rfl) ?_
                                refine va_get (D := (dC, dI)) (ci := 6) (v := .ref ry) (C := RX7) (T := TX7) (N := 4) hx hb hts inX7 hown hK hP 0 rfl rfl 1 (by decide) (hts _ mw_168) (fun _ h9 => h9) rfl dX7_where_232 ?_
                                refine lv_iload hx hb dX7_where_235 (lv_at hl 1 rfl) ?_
                                refine z_iald hx hb hK hP 2 0 rfl rfl (e := nxt n i) rfl (by omega) (by omega) dX7_where_237 ?_
                                refine lv_aload_n hx hb dX7_where_238 rfl (lv_at hl 4 rfl) ?_
                                refine va_get (D := (dC, dI)) (ci := 6) (v := .ref ry) (C := RX7) (T := TX7) (N := 4) hx hb hts inX7 hown hK hP 0 rfl rfl 1 (by decide) (hts _ mw_168) (fun _ h9 => h9) rfl dX7_where_239 ?_
                                refine lv_iload hx hb dX7_where_242 (lv_at hl 2 rfl) ?_
                                refine z_iald hx hb hK hP 2 0 rfl rfl (e := i) rfl (by omega) (by omega) dX7_where_244 ?_
                                refine lv_icmp_le (tgt := 252) hx hb dX7_where_245 (by decide) (fun c_109 => ?_) (fun c_109 => ?_)
                                · have c_109 : (Y (nxt n i)).toInt ≤ (Y i).toInt := zc_le rfl rfl c_109
                                  refine lv_iconst (v := 0) hx hb dX7_where_252 (by decide) ?_
                                  refine lv_icmp_ne (tgt := 266) hx hb dX7_where_253 (by decide) (fun c_110 => ?_) (fun c_110 => ?_)
                                  · have c_110 : ¬ 1 = 0 := zc_ne (by decide) (by decide) c_110
                                    refine lv_iinc (v := nI (i + 1)) (lv' := [(4, .int (nI (i + 1))), (6, .int (iI (eCr n X Y i px.toInt py.toInt))), (5, .int (nI (nxt n i))), (3, .int (pI (par2 (eTg n X Y px.toInt py.toInt) i))), (0, .ref r), (1, .int px), (2, .int py)]) hx hb dX7_where_266 hl (k := 2) rfl (nI_add i 1) (by decide) rfl (fun ls hl => ?_)
                                    refine lv_goto (tgt := 5) hx hb dX7_where_269 (by decide) ?_
                                    have hl9 := lv_sub hl [0, 3, 4, 5, 6] rfl
                                    have e9_3 : pI (par2 (eTg n X Y px.toInt py.toInt) (i + 1)) = (pI (par2 (eTg n X Y px.toInt py.toInt) i) : Int32) := by first | exact zp_iff (par2_n (sk_tg (by omega)).1) | exact zp_iff (par2_n (by unfold eTg; omega)) | exact zp_t ((par2_y (by unfold eTg; omega)).mpr (by assumption)) | exact zp_f (fun q => (par2_y (by unfold eTg; omega)).mp q (by assumption))
                                    have hl9 : lv_has ls 7 [(4, .int (nI (i + 1))), (3, .int (pI (par2 (eTg n X Y px.toInt py.toInt) (i + 1)))), (0, .ref r), (1, .int px), (2, .int py)] := by rw [e9_3]; exact hl9
                                    exact ih_5 (i + 1) H locs ls (by omega) (by omega) (by intro k hk; rcases Nat.lt_or_ge k i with h | h; exact hno k h; have e9 : k = i := (by omega); subst e9; first | exact (sk_tg (by omega)).2 | (unfold eOn onS; unfold eCr at *; omega)) hP hD hS hl9
                                  · exact absurd c_110 (by decide)
                                · have c_109 : (Y i).toInt < (Y (nxt n i)).toInt := zc_nle rfl rfl c_109
                                  refine lv_iconst (v := 1) hx hb dX7_where_248 (by decide) ?_
                                  refine lv_goto (tgt := 253) hx hb dX7_where_249 (by decide) ?_
                                  refine lv_icmp_ne (tgt := 266) hx hb dX7_where_253 (by decide) (fun c_111 => ?_) (fun c_111 => ?_)
                                  · exact absurd (by decide) c_111
                                  · have c_111 : 1 = 1 := zc_eq (by decide) (by decide) c_111
                                    refine lv_iload_n hx hb dX7_where_256 rfl (lv_at hl 3 rfl) ?_
                                    refine lv_if_ne (tgt := 264) hx hb dX7_where_257 (by decide) (fun c_112 => ?_) (fun c_112 => ?_)
                                    · have c_112 : par2 (eTg n X Y px.toInt py.toInt) i := zp_1 c_112
                                      refine lv_iconst (v := 0) hx hb dX7_where_264 (by decide) ?_
                                      refine lv_istore_n (lv' := [(3, .int 0), (6, .int (iI (eCr n X Y i px.toInt py.toInt))), (5, .int (nI (nxt n i))), (4, .int (nI i)), (0, .ref r), (1, .int px), (2, .int py)]) hx hb dX7_where_265 rfl hl (by decide) rfl (fun ls hl => ?_)
                                      refine lv_iinc (v := nI (i + 1)) (lv' := [(4, .int (nI (i + 1))), (3, .int 0), (6, .int (iI (eCr n X Y i px.toInt py.toInt))), (5, .int (nI (nxt n i))), (0, .ref r), (1, .int px), (2, .int py)]) hx hb dX7_where_266 hl (k := 3) rfl (nI_add i 1) (by decide) rfl (fun ls hl => ?_)
                                      refine lv_goto (tgt := 5) hx hb dX7_where_269 (by decide) ?_
                                      have hl9 := lv_sub hl [0, 1, 4, 5, 6] rfl
                                      have e9_3 : pI (par2 (eTg n X Y px.toInt py.toInt) (i + 1)) = (0 : Int32) := by first | exact zp_iff (par2_n (sk_tg (by omega)).1) | exact zp_iff (par2_n (by unfold eTg; omega)) | exact zp_t ((par2_y (by unfold eTg; omega)).mpr (by assumption)) | exact zp_f (fun q => (par2_y (by unfold eTg; omega)).mp q (by assumption))
                                      have hl9 : lv_has ls 7 [(4, .int (nI (i + 1))), (3, .int (pI (par2 (eTg n X Y px.toInt py.toInt) (i + 1)))), (0, .ref r), (1, .int px), (2, .int py)] := by rw [e9_3]; exact hl9
                                      exact ih_5 (i + 1) H locs ls (by omega) (by omega) (by intro k hk; rcases Nat.lt_or_ge k i with h | h; exact hno k h; have e9 : k = i := (by omega); subst e9; first | exact (sk_tg (by omega)).2 | (unfold eOn onS; unfold eCr at *; omega)) hP hD hS hl9
                                    · have c_112 : ¬ (par2 (eTg n X Y px.toInt py.toInt) i) := zp_0 c_112
                                      refine lv_iconst (v := 1) hx hb dX7_where_260 (by decide) ?_
                                      refine lv_goto (tgt := 265) hx hb dX7_where_261 (by decide) ?_
                                      refine lv_istore_n (lv' := [(3, .int 1), (6, .int (iI (eCr n X Y i px.toInt py.toInt))), (5, .int (nI (nxt n i))), (4, .int (nI i)), (0, .ref r), (1, .int px), (2, .int py)]) hx hb dX7_where_265 rfl hl (by decide) rfl (fun ls hl => ?_)
                                      refine lv_iinc (v := nI (i + 1)) (lv' := [(4, .int (nI (i + 1))), (3, .int 1), (6, .int (iI (eCr n X Y i px.toInt py.toInt))), (5, .int (nI (nxt n i))), (0, .ref r), (1, .int px), (2, .int py)]) hx hb dX7_where_266 hl (k := 3) rfl (nI_add i 1) (by decide) rfl (fun ls hl => ?_)
                                      refine lv_goto (tgt := 5) hx hb dX7_where_269 (by decide) ?_
                                      have hl9 := lv_sub hl [0, 1, 4, 5, 6] rfl
                                      have e9_3 : pI (par2 (eTg n X Y px.toInt py.toInt) (i + 1)) = (1 : Int32) := by first | exact zp_iff (par2_n (sk_tg (by omega)).1) | exact zp_iff (par2_n (by unfold eTg; omega)) | exact zp_t ((par2_y (by unfold eTg; omega)).mpr (by assumption)) | exact zp_f (fun q => (par2_y (by unfold eTg; omega)).mp q (by assumption))
                                      have hl9 : lv_has ls 7 [(4, .int (nI (i + 1))), (3, .int (pI (par2 (eTg n X Y px.toInt py.toInt) (i + 1)))), (0, .ref r), (1, .int px), (2, .int py)] := by rw [e9_3]; exact hl9
                                      exact ih_5 (i + 1) H locs ls (by omega) (by omega) (by intro k hk; rcases Nat.lt_or_ge k i with h | h; exact hno k h; have e9 : k = i := (by omega); subst e9; first | exact (sk_tg (by omega)).2 | (unfold eOn onS; unfold eCr at *; omega)) hP hD hS hl9
                          · have c_102 : py.toInt < (Y (nxt n i)).toInt := zc_nle rfl rfl c_102
                            refine lv_iconst (v := 1) hx hb dX7_where_213 (by decide) ?_
                            refine lv_goto (tgt := 218) hx hb dX7_where_214 (by decide) ?_
                            refine lv_icmp_eq (tgt := 266) hx hb dX7_where_218 (by decide) (fun c_113 => ?_) (fun c_113 => ?_)
                            · have c_113 : 1 = 1 := zc_eq (by decide) (by decide) c_113
                              refine lv_iinc (v := nI (i + 1)) (lv' := [(4, .int (nI (i + 1))), (6, .int (iI (eCr n X Y i px.toInt py.toInt))), (5, .int (nI (nxt n i))), (3, .int (pI (par2 (eTg n X Y px.toInt py.toInt) i))), (0, .ref r), (1, .int px), (2, .int py)]) hx hb dX7_where_266 hl (k := 2) rfl (nI_add i 1) (by decide) rfl (fun ls hl => ?_)
                              refine lv_goto (tgt := 5) hx hb dX7_where_269 (by decide) ?_
                              have hl9 := lv_sub hl [0, 3, 4, 5, 6] rfl
                              have e9_3 : pI (par2 (eTg n X Y px.toInt py.toInt) (i + 1)) = (pI (par2 (eTg n X Y px.toInt py.toInt) i) : Int32) := by first | exact zp_iff (par2_n (sk_tg (by omega)).1) | exact zp_iff (par2_n (by unfold eTg; omega)) | exact zp_t ((par2_y (by unfold eTg; omega)).mpr (by assumption)) | exact zp_f (fun q => (par2_y (by unfold eTg; omega)).mp q (by assumption))
                              have hl9 : lv_has ls 7 [(4, .int (nI (i + 1))), (3, .int (pI (par2 (eTg n X Y px.toInt py.toInt) (i + 1)))), (0, .ref r), (1, .int px), (2, .int py)] := by rw [e9_3]; exact hl9
                              exact ih_5 (i + 1) H locs ls (by omega) (by omega) (by intro k hk; rcases Nat.lt_or_ge k i with h | h; exact hno k h; have e9 : k = i := (by omega); subst e9; first | exact (sk_tg (by omega)).2 | (unfold eOn onS; unfold eCr at *; omega)) hP hD hS hl9
                            · exact absurd (by decide) c_113
                      · have c_88 : (X (nxt n i)).toInt ≤ px.toInt := zc_nlt rfl rfl c_88
                        refine lv_iconst (v := 2) hx hb dX7_where_184 (by decide) ?_
                        have hP9 := hP.sub (ws' := [(r, .inr (6, [.ref rx, .ref ry, .int (nI n), .int rg])), (rx, .inl (cI, cap, .inl X)), (ry, .inl (cI, cap, .inl Y))]) [0, 1, 2] rfl
                        have hD9 := hD.sub (ws' := [(r, .inr (6, [.ref rx, .ref ry, .int (nI n), .int rg])), (rx, .inl (cI, cap, .inl X)), (ry, .inl (cI, cap, .inl Y))]) [0, 1, 2] (by decide) rfl
                        rw [hQ9]
                        exact W.iret (v := 2) hx hb hr (fun t ht hW => ⟨⟨congrArg (fun z => Outcome.returned (some (Value.int z))) (show (2 : Int32) = whr n X Y px.toInt py.toInt from (whr_2 ⟨i, by omega, by unfold eOn onS; unfold eCr at *; omega⟩).symm), by rw [ht]; exact hP9, hD9⟩, hS.F ht⟩) hS.2.2 dX7_where_185
                · have c_60 : (X (nxt n i)).toInt < px.toInt := zc_nle rfl rfl c_60
                  refine lv_goto (tgt := 266) hx hb dX7_where_101 (by decide) ?_
                  refine lv_iinc (v := nI (i + 1)) (lv' := [(4, .int (nI (i + 1))), (5, .int (nI (nxt n i))), (3, .int (pI (par2 (eTg n X Y px.toInt py.toInt) i))), (0, .ref r), (1, .int px), (2, .int py)]) hx hb dX7_where_266 hl (k := 1) rfl (nI_add i 1) (by decide) rfl (fun ls hl => ?_)
                  refine lv_goto (tgt := 5) hx hb dX7_where_269 (by decide) ?_
                  have hl9 := lv_sub hl [0, 2, 3, 4, 5] rfl
                  have e9_3 : pI (par2 (eTg n X Y px.toInt py.toInt) (i + 1)) = (pI (par2 (eTg n X Y px.toInt py.toInt) i) : Int32) := by first | exact zp_iff (par2_n (sk_tg (by omega)).1) | exact zp_iff (par2_n (by unfold eTg; omega)) | exact zp_t ((par2_y (by unfold eTg; omega)).mpr (by assumption)) | exact zp_f (fun q => (par2_y (by unfold eTg; omega)).mp q (by assumption))
                  have hl9 : lv_has ls 7 [(4, .int (nI (i + 1))), (3, .int (pI (par2 (eTg n X Y px.toInt py.toInt) (i + 1)))), (0, .ref r), (1, .int px), (2, .int py)] := by rw [e9_3]; exact hl9
                  exact ih_5 (i + 1) H locs ls (by omega) (by omega) (by intro k hk; rcases Nat.lt_or_ge k i with h | h; exact hno k h; have e9 : k = i := (by omega); subst e9; first | exact (sk_tg (by omega)).2 | (unfold eOn onS; unfold eCr at *; omega)) hP hD hS hl9
            · have c_5 : (Y i).toInt < py.toInt := zc_nle rfl rfl c_5
              refine lv_aload_n hx hb dX7_where_68 rfl (lv_at hl 3 rfl) ?_
              refine va_get (D := (dC, dI)) (ci := 6) (v := .ref ry) (C := RX7) (T := TX7) (N := 4) hx hb hts inX7 hown hK hP 0 rfl rfl 1 (by decide) (hts _ mw_168) (fun _ h9 => h9) rfl dX7_where_69 ?_
              refine lv_iload hx hb dX7_where_72 (lv_at hl 0 rfl) ?_
              refine z_iald hx hb hK hP 2 0 rfl rfl (e := nxt n i) rfl (by omega) (by omega) dX7_where_74 ?_
              refine lv_iload_n hx hb dX7_where_75 rfl (lv_at hl 5 rfl) ?_
              refine lv_icmp_lt (tgt := 266) hx hb dX7_where_76 (by decide) (fun c_114 => ?_) (fun c_114 => ?_)
              · have c_114 : (Y (nxt n i)).toInt < py.toInt := zc_lt rfl rfl c_114
                refine lv_iinc (v := nI (i + 1)) (lv' := [(4, .int (nI (i + 1))), (5, .int (nI (nxt n i))), (3, .int (pI (par2 (eTg n X Y px.toInt py.toInt) i))), (0, .ref r), (1, .int px), (2, .int py)]) hx hb dX7_where_266 hl (k := 1) rfl (nI_add i 1) (by decide) rfl (fun ls hl => ?_)
                refine lv_goto (tgt := 5) hx hb dX7_where_269 (by decide) ?_
                have hl9 := lv_sub hl [0, 2, 3, 4, 5] rfl
                have e9_3 : pI (par2 (eTg n X Y px.toInt py.toInt) (i + 1)) = (pI (par2 (eTg n X Y px.toInt py.toInt) i) : Int32) := by first | exact zp_iff (par2_n (sk_tg (by omega)).1) | exact zp_iff (par2_n (by unfold eTg; omega)) | exact zp_t ((par2_y (by unfold eTg; omega)).mpr (by assumption)) | exact zp_f (fun q => (par2_y (by unfold eTg; omega)).mp q (by assumption))
                have hl9 : lv_has ls 7 [(4, .int (nI (i + 1))), (3, .int (pI (par2 (eTg n X Y px.toInt py.toInt) (i + 1)))), (0, .ref r), (1, .int px), (2, .int py)] := by rw [e9_3]; exact hl9
                exact ih_5 (i + 1) H locs ls (by omega) (by omega) (by intro k hk; rcases Nat.lt_or_ge k i with h | h; exact hno k h; have e9 : k = i := (by omega); subst e9; first | exact (sk_tg (by omega)).2 | (unfold eOn onS; unfold eCr at *; omega)) hP hD hS hl9
              · have c_114 : py.toInt ≤ (Y (nxt n i)).toInt := zc_nlt rfl rfl c_114
                refine lv_aload_n hx hb dX7_where_79 rfl (lv_at hl 3 rfl) ?_
                refine va_get (D := (dC, dI)) (ci := 6) (v := .ref rx) (C := RX7) (T := TX7) (N := 4) hx hb hts inX7 hown hK hP 0 rfl rfl 0 (by decide) (hts _ mw_161) (fun _ h9 => h9) rfl dX7_where_80 ?_
                refine lv_iload hx hb dX7_where_83 (lv_at hl 1 rfl) ?_
                refine z_iald hx hb hK hP 1 0 rfl rfl (e := i) rfl (by omega) (by omega) dX7_where_85 ?_
                refine lv_iload_n hx hb dX7_where_86 rfl (lv_at hl 4 rfl) ?_
                refine lv_icmp_ge (tgt := 104) hx hb dX7_where_87 (by decide) (fun c_115 => ?_) (fun c_115 => ?_)
                · have c_115 : px.toInt ≤ (X i).toInt := zc_le rfl rfl c_115
                  refine lv_aload_n hx hb dX7_where_104 rfl (lv_at hl 3 rfl) ?_
                  refine va_get (D := (dC, dI)) (ci := 6) (v := .ref rx) (C := RX7) (T := TX7) (N := 4) hx hb hts inX7 hown hK hP 0 rfl rfl 0 (by decide) (hts _ mw_161) (fun _ h9 => h9) rfl dX7_where_105 ?_
                  refine lv_iload hx hb dX7_where_108 (lv_at hl 0 rfl) ?_
                  refine z_iald hx hb hK hP 1 0 rfl rfl (e := nxt n i) rfl (by omega) (by omega) dX7_where_110 ?_
                  refine lv_aload_n hx hb dX7_where_111 rfl (lv_at hl 3 rfl) ?_
                  refine va_get (D := (dC, dI)) (ci := 6) (v := .ref rx) (C := RX7) (T := TX7) (N := 4) hx hb hts inX7 hown hK hP 0 rfl rfl 0 (by decide) (hts _ mw_161) (fun _ h9 => h9) rfl dX7_where_112 ?_
                  refine lv_iload hx hb dX7_where_115 (lv_at hl 1 rfl) ?_
                  refine z_iald hx hb hK hP 1 0 rfl rfl (e := i) rfl (by omega) (by omega) dX7_where_117 ?_
                  refine lv_isub hx hb dX7_where_118 ?_
                  refine lv_iload_n hx hb dX7_where_119 rfl (lv_at hl 5 rfl) ?_
                  refine lv_aload_n hx hb dX7_where_120 rfl (lv_at hl 3 rfl) ?_
                  refine va_get (D := (dC, dI)) (ci := 6) (v := .ref ry) (C := RX7) (T := TX7) (N := 4) hx hb hts inX7 hown hK hP 0 rfl rfl 1 (by decide) (hts _ mw_168) (fun _ h9 => h9) rfl dX7_where_121 ?_
                  refine lv_iload hx hb dX7_where_124 (lv_at hl 1 rfl) ?_
                  refine z_iald hx hb hK hP 2 0 rfl rfl (e := i) rfl (by omega) (by omega) dX7_where_126 ?_
                  refine lv_isub hx hb dX7_where_127 ?_
                  refine lv_imul hx hb dX7_where_128 ?_
                  refine lv_aload_n hx hb dX7_where_129 rfl (lv_at hl 3 rfl) ?_
                  refine va_get (D := (dC, dI)) (ci := 6) (v := .ref ry) (C := RX7) (T := TX7) (N := 4) hx hb hts inX7 hown hK hP 0 rfl rfl 1 (by decide) (hts _ mw_168) (fun _ h9 => h9) rfl dX7_where_130 ?_
                  refine lv_iload hx hb dX7_where_133 (lv_at hl 0 rfl) ?_
                  refine z_iald hx hb hK hP 2 0 rfl rfl (e := nxt n i) rfl (by omega) (by omega) dX7_where_135 ?_
                  refine lv_aload_n hx hb dX7_where_136 rfl (lv_at hl 3 rfl) ?_
                  refine va_get (D := (dC, dI)) (ci := 6) (v := .ref ry) (C := RX7) (T := TX7) (N := 4) hx hb hts inX7 hown hK hP 0 rfl rfl 1 (by decide) (hts _ mw_168) (fun _ h9 => h9) rfl dX7_where_137 ?_
                  refine lv_iload hx hb dX7_where_140 (lv_at hl 1 rfl) ?_
                  refine z_iald hx hb hK hP 2 0 rfl rfl (e := i) rfl (by omega) (by omega) dX7_where_142 ?_
                  refine lv_isub hx hb dX7_where_143 ?_
                  refine lv_iload_n hx hb dX7_where_144 rfl (lv_at hl 4 rfl) ?_
                  refine lv_aload_n hx hb dX7_where_145 rfl (lv_at hl 3 rfl) ?_
                  refine va_get (D := (dC, dI)) (ci := 6) (v := .ref rx) (C := RX7) (T := TX7) (N := 4) hx hb hts inX7 hown hK hP 0 rfl rfl 0 (by decide) (hts _ mw_161) (fun _ h9 => h9) rfl dX7_where_146 ?_
                  refine lv_iload hx hb dX7_where_149 (lv_at hl 1 rfl) ?_
                  refine z_iald hx hb hK hP 1 0 rfl rfl (e := i) rfl (by omega) (by omega) dX7_where_151 ?_
                  refine lv_isub hx hb dX7_where_152 ?_
                  refine lv_imul hx hb dX7_where_153 ?_
                  refine lv_isub hx hb dX7_where_154 ?_
                  refine zz_i (v := iI (eCr n X Y i px.toInt py.toInt)) (crI (hp i (by omega)).1 (hp i (by omega)).2 (hp _ hnx).1 (hp _ hnx).2 hpx hpy) ?_
                  have hB1 := crBp (hp i (by omega)).1 (hp i (by omega)).2 (hp _ hnx).1 (hp _ hnx).2 hpx hpy
                  have hB1 : -2000000 ≤ eCr n X Y i px.toInt py.toInt ∧ eCr n X Y i px.toInt py.toInt ≤ 2000000 := hB1
                  refine lv_istore (lv' := [(6, .int (iI (eCr n X Y i px.toInt py.toInt))), (5, .int (nI (nxt n i))), (4, .int (nI i)), (3, .int (pI (par2 (eTg n X Y px.toInt py.toInt) i))), (0, .ref r), (1, .int px), (2, .int py)]) hx hb dX7_where_155 hl (by decide) rfl (fun ls hl => ?_)
                  refine lv_iload hx hb dX7_where_157 (lv_at hl 0 rfl) ?_
                  refine lv_if_ne (tgt := 186) hx hb dX7_where_159 (by decide) (fun c_116 => ?_) (fun c_116 => ?_)
                  · have c_116 : ¬ (eCr n X Y i px.toInt py.toInt) = 0 := zc_ne (iI_toInt (by omega)) (by decide) c_116
                    refine lv_aload_n hx hb dX7_where_186 rfl (lv_at hl 4 rfl) ?_
                    refine va_get (D := (dC, dI)) (ci := 6) (v := .ref ry) (C := RX7) (T := TX7) (N := 4) hx hb hts inX7 hown hK hP 0 rfl rfl 1 (by decide) (hts _ mw_168) (fun _ h9 => h9) rfl dX7_where_187 ?_
                    refine lv_iload hx hb dX7_where_190 (lv_at hl 2 rfl) ?_
                    refine z_iald hx hb hK hP 2 0 rfl rfl (e := i) rfl (by omega) (by omega) dX7_where_192 ?_
                    refine lv_iload_n hx hb dX7_where_193 rfl (lv_at hl 6 rfl) ?_
                    refine lv_icmp_le (tgt := 201) hx hb dX7_where_194 (by decide) (fun c_117 => ?_) (fun c_117 => ?_)
                    · have c_117 : (Y i).toInt ≤ py.toInt := zc_le rfl rfl c_117
                      refine lv_iconst (v := 0) hx hb dX7_where_201 (by decide) ?_
                      refine lv_aload_n hx hb dX7_where_202 rfl (lv_at hl 4 rfl) ?_
                      refine va_get (D := (dC, dI)) (ci := 6) (v := .ref ry) (C := RX7) (T := TX7) (N := 4) hx hb hts inX7 hown hK hP 0 rfl rfl 1 (by decide) (hts _ mw_168) (fun _ h9 => h9) rfl dX7_where_203 ?_
                      refine lv_iload hx hb dX7_where_206 (lv_at hl 1 rfl) ?_
                      refine z_iald hx hb hK hP 2 0 rfl rfl (e := nxt n i) rfl (by omega) (by omega) dX7_where_208 ?_
                      refine lv_iload_n hx hb dX7_where_209 rfl (lv_at hl 6 rfl) ?_
                      refine lv_icmp_le (tgt := 217) hx hb dX7_where_210 (by decide) (fun c_118 => ?_) (fun c_118 => ?_)
                      · have c_118 : (Y (nxt n i)).toInt ≤ py.toInt := zc_le rfl rfl c_118
                        refine lv_iconst (v := 0) hx hb dX7_where_217 (by decide) ?_
                        refine lv_icmp_eq (tgt := 266) hx hb dX7_where_218 (by decide) (fun c_119 => ?_) (fun c_119 => ?_)
                        · have c_119 : 0 = 0 := zc_eq (by decide) (by decide) c_119
                          refine lv_iinc (v := nI (i + 1)) (lv' := [(4, .int (nI (i + 1))), (6, .int (iI (eCr n X Y i px.toInt py.toInt))), (5, .int (nI (nxt n i))), (3, .int (pI (par2 (eTg n X Y px.toInt py.toInt) i))), (0, .ref r), (1, .int px), (2, .int py)]) hx hb dX7_where_266 hl (k := 2) rfl (nI_add i 1) (by decide) rfl (fun ls hl => ?_)
                          refine lv_goto (tgt := 5) hx hb dX7_where_269 (by decide) ?_
                          have hl9 := lv_sub hl [0, 3, 4, 5, 6] rfl
                          have e9_3 : pI (par2 (eTg n X Y px.toInt py.toInt) (i + 1)) = (pI (par2 (eTg n X Y px.toInt py.toInt) i) : Int32) := by first | exact zp_iff (par2_n (sk_tg (by omega)).1) | exact zp_iff (par2_n (by unfold eTg; omega)) | exact zp_t ((par2_y (by unfold eTg; omega)).mpr (by assumption)) | exact zp_f (fun q => (par2_y (by unfold eTg; omega)).mp q (by assumption))
                          have hl9 : lv_has ls 7 [(4, .int (nI (i + 1))), (3, .int (pI (par2 (eTg n X Y px.toInt py.toInt) (i + 1)))), (0, .ref r), (1, .int px), (2, .int py)] := by rw [e9_3]; exact hl9
                          exact ih_5 (i + 1) H locs ls (by omega) (by omega) (by intro k hk; rcases Nat.lt_or_ge k i with h | h; exact hno k h; have e9 : k = i := (by omega); subst e9; first | exact (sk_tg (by omega)).2 | (unfold eOn onS; unfold eCr at *; omega)) hP hD hS hl9
                        · exact absurd (by decide) c_119
                      · have c_118 : py.toInt < (Y (nxt n i)).toInt := zc_nle rfl rfl c_118
                        refine lv_iconst (v := 1) hx hb dX7_where_213 (by decide) ?_
                        refine lv_goto (tgt := 218) hx hb dX7_where_214 (by decide) ?_
                        refine lv_icmp_eq (tgt := 266) hx hb dX7_where_218 (by decide) (fun c_120 => ?_) (fun c_120 => ?_)
                        · exact absurd c_120 (by decide)
                        · have c_120 : ¬ 0 = 1 := zc_ne (by decide) (by decide) c_120
                          refine lv_iload hx hb dX7_where_221 (lv_at hl 0 rfl) ?_
                          refine lv_if_le (tgt := 230) hx hb dX7_where_223 (by decide) (fun c_121 => ?_) (fun c_121 => ?_)
                          · have c_121 : (eCr n X Y i px.toInt py.toInt) ≤ 0 := zc_le (iI_toInt (by omega)) (by decide) c_121
                            refine lv_iconst (v := 0) hx hb dX7_where_230 (by decide) ?_
                            refine lv_aload_n hx hb dX7_where_231 rfl (lv_at hl 4 rfl) ?_
                            refine va_get (D := (dC, dI)) (ci := 6) (v := .ref ry) (C := RX7) (T := TX7) (N := 4) hx hb hts inX7 hown hK hP 0 rfl rfl 1 (by decide) (hts _ mw_168) (fun _ h9 => h9) rfl dX7_where_232 ?_
                            refine lv_iload hx hb dX7_where_235 (lv_at hl 1 rfl) ?_
                            refine z_iald hx hb hK hP 2 0 rfl rfl (e := nxt n i) rfl (by omega) (by omega) dX7_where_237 ?_
                            refine lv_aload_n hx hb dX7_where_238 rfl (lv_at hl 4 rfl) ?_
                            refine va_get (D := (dC, dI)) (ci := 6) (v := .ref ry) (C := RX7) (T := TX7) (N := 4) hx hb hts inX7 hown hK hP 0 rfl rfl 1 (by decide) (hts _ mw_168) (fun _ h9 => h9) rfl dX7_where_239 ?_
                            refine lv_iload hx hb dX7_where_242 (lv_at hl 2 rfl) ?_
                            refine z_iald hx hb hK hP 2 0 rfl rfl (e := i) rfl (by omega) (by omega) dX7_where_244 ?_
                            refine lv_icmp_le (tgt := 252) hx hb dX7_where_245 (by decide) (fun c_122 => ?_) (fun c_122 => ?_)
                            · have c_122 : (Y (nxt n i)).toInt ≤ (Y i).toInt := zc_le rfl rfl c_122
                              refine lv_iconst (v := 0) hx hb dX7_where_252 (by decide) ?_
                              refine lv_icmp_ne (tgt := 266) hx hb dX7_where_253 (by decide) (fun c_123 => ?_) (fun c_123 => ?_)
                              · exact absurd (by decide) c_123
                              · have c_123 : 0 = 0 := zc_eq (by decide) (by decide) c_123
                                refine lv_iload_n hx hb dX7_where_256 rfl (lv_at hl 3 rfl) ?_
                                refine lv_if_ne (tgt := 264) hx hb dX7_where_257 (by decide) (fun c_124 => ?_) (fun c_124 => ?_)
                                · have c_124 : par2 (eTg n X Y px.toInt py.toInt) i := zp_1 c_124
                                  refine lv_iconst (v := 0) hx hb dX7_where_264 (by decide) ?_
                                  refine lv_istore_n (lv' := [(3, .int 0), (6, .int (iI (eCr n X Y i px.toInt py.toInt))), (5, .int (nI (nxt n i))), (4, .int (nI i)), (0, .ref r), (1, .int px), (2, .int py)]) hx hb dX7_where_265 rfl hl (by decide) rfl (fun ls hl => ?_)
                                  refine lv_iinc (v := nI (i + 1)) (lv' := [(4, .int (nI (i + 1))), (3, .int 0), (6, .int (iI (eCr n X Y i px.toInt py.toInt))), (5, .int (nI (nxt n i))), (0, .ref r), (1, .int px), (2, .int py)]) hx hb dX7_where_266 hl (k := 3) rfl (nI_add i 1) (by decide) rfl (fun ls hl => ?_)
                                  refine lv_goto (tgt := 5) hx hb dX7_where_269 (by decide) ?_
                                  have hl9 := lv_sub hl [0, 1, 4, 5, 6] rfl
                                  have e9_3 : pI (par2 (eTg n X Y px.toInt py.toInt) (i + 1)) = (0 : Int32) := by first | exact zp_iff (par2_n (sk_tg (by omega)).1) | exact zp_iff (par2_n (by unfold eTg; omega)) | exact zp_t ((par2_y (by unfold eTg; omega)).mpr (by assumption)) | exact zp_f (fun q => (par2_y (by unfold eTg; omega)).mp q (by assumption))
                                  have hl9 : lv_has ls 7 [(4, .int (nI (i + 1))), (3, .int (pI (par2 (eTg n X Y px.toInt py.toInt) (i + 1)))), (0, .ref r), (1, .int px), (2, .int py)] := by rw [e9_3]; exact hl9
                                  exact ih_5 (i + 1) H locs ls (by omega) (by omega) (by intro k hk; rcases Nat.lt_or_ge k i with h | h; exact hno k h; have e9 : k = i := (by omega); subst e9; first | exact (sk_tg (by omega)).2 | (unfold eOn onS; unfold eCr at *; omega)) hP hD hS hl9
                                · have c_124 : ¬ (par2 (eTg n X Y px.toInt py.toInt) i) := zp_0 c_124
                                  refine lv_iconst (v := 1) hx hb dX7_where_260 (by decide) ?_
                                  refine lv_goto (tgt := 265) hx hb dX7_where_261 (by decide) ?_
                                  refine lv_istore_n (lv' := [(3, .int 1), (6, .int (iI (eCr n X Y i px.toInt py.toInt))), (5, .int (nI (nxt n i))), (4, .int (nI i)), (0, .ref r), (1, .int px), (2, .int py)]) hx hb dX7_where_265 rfl hl (by decide) rfl (fun ls hl => ?_)
                                  refine lv_iinc (v := nI (i + 1)) (lv' := [(4, .int (nI (i + 1))), (3, .int 1), (6, .int (iI (eCr n X Y i px.toInt py.toInt))), (5, .int (nI (nxt n i))), (0, .ref r), (1, .int px), (2, .int py)]) hx hb dX7_where_266 hl (k := 3) rfl (nI_add i 1) (by decide) rfl (fun ls hl => ?_)
                                  refine lv_goto (tgt := 5) hx hb dX7_where_269 (by decide) ?_
                                  have hl9 := lv_sub hl [0, 1, 4, 5, 6] rfl
                                  have e9_3 : pI (par2 (eTg n X Y px.toInt py.toInt) (i + 1)) = (1 : Int32) := by first | exact zp_iff (par2_n (sk_tg (by omega)).1) | exact zp_iff (par2_n (by unfold eTg; omega)) | exact zp_t ((par2_y (by unfold eTg; omega)).mpr (by assumption)) | exact zp_f (fun q => (par2_y (by unfold eTg; omega)).mp q (by assumption))
                                  have hl9 : lv_has ls 7 [(4, .int (nI (i + 1))), (3, .int (pI (par2 (eTg n X Y px.toInt py.toInt) (i + 1)))), (0, .ref r), (1, .int px), (2, .int py)] := by rw [e9_3]; exact hl9
                                  exact ih_5 (i + 1) H locs ls (by omega) (by omega) (by intro k hk; rcases Nat.lt_or_ge k i with h | h; exact hno k h; have e9 : k = i := (by omega); subst e9; first | exact (sk_tg (by omega)).2 | (unfold eOn onS; unfold eCr at *; omega)) hP hD hS hl9
                            · have c_122 : (Y i).toInt < (Y (nxt n i)).toInt := zc_nle rfl rfl c_122
                              refine lv_iconst (v := 1) hx hb dX7_where_248 (by decide) ?_
                              refine lv_goto (tgt := 253) hx hb dX7_where_249 (by decide) ?_
                              refine lv_icmp_ne (tgt := 266) hx hb dX7_where_253 (by decide) (fun c_125 => ?_) (fun c_125 => ?_)
                              · have c_125 : ¬ 0 = 1 := zc_ne (by decide) (by decide) c_125
                                refine lv_iinc (v := nI (i + 1)) (lv' := [(4, .int (nI (i + 1))), (6, .int (iI (eCr n X Y i px.toInt py.toInt))), (5, .int (nI (nxt n i))), (3, .int (pI (par2 (eTg n X Y px.toInt py.toInt) i))), (0, .ref r), (1, .int px), (2, .int py)]) hx hb dX7_where_266 hl (k := 2) rfl (nI_add i 1) (by decide) rfl (fun ls hl => ?_)
                                refine lv_goto (tgt := 5) hx hb dX7_where_269 (by decide) ?_
                                have hl9 := lv_sub hl [0, 3, 4, 5, 6] rfl
                                have e9_3 : pI (par2 (eTg n X Y px.toInt py.toInt) (i + 1)) = (pI (par2 (eTg n X Y px.toInt py.toInt) i) : Int32) := by first | exact zp_iff (par2_n (sk_tg (by omega)).1) | exact zp_iff (par2_n (by unfold eTg; omega)) | exact zp_t ((par2_y (by unfold eTg; omega)).mpr (by assumption)) | exact zp_f (fun q => (par2_y (by unfold eTg; omega)).mp q (by assumption))
                                have hl9 : lv_has ls 7 [(4, .int (nI (i + 1))), (3, .int (pI (par2 (eTg n X Y px.toInt py.toInt) (i + 1)))), (0, .ref r), (1, .int px), (2, .int py)] := by rw [e9_3]; exact hl9
                                exact ih_5 (i + 1) H locs ls (by omega) (by omega) (by intro k hk; rcases Nat.lt_or_ge k i with h | h; exact hno k h; have e9 : k = i := (by omega); subst e9; first | exact (sk_tg (by omega)).2 | (unfold eOn onS; unfold eCr at *; omega)) hP hD hS hl9
                              · exact absurd c_125 (by decide)
                          · have c_121 : 0 < (eCr n X Y i px.toInt py.toInt) := zc_nle (iI_toInt (by omega)) (by decide) c_121
                            refine lv_iconst (v := 1) hx hb dX7_where_226 (by decide) ?_
                            refine lv_goto (tgt := 231) hx hb dX7_where_227 (by decide) ?_
                            refine lv_aload_n hx hb dX7_where_231 rfl (lv_at hl 4 rfl) ?_
                            refine va_get (D := (dC, dI)) (ci := 6) (v := .ref ry) (C := RX7) (T := TX7) (N := 4) hx hb hts inX7 hown hK hP 0 rfl rfl 1 (by decide) (hts _ mw_168) (fun _ h9 => h9) rfl dX7_where_232 ?_
                            refine lv_iload hx hb dX7_where_235 (lv_at hl 1 rfl) ?_
                            refine z_iald hx hb hK hP 2 0 rfl rfl (e := nxt n i) rfl (by omega) (by omega) dX7_where_237 ?_
                            refine lv_aload_n hx hb dX7_where_238 rfl (lv_at hl 4 rfl) ?_
                            refine va_get (D := (dC, dI)) (ci := 6) (v := .ref ry) (C := RX7) (T := TX7) (N := 4) hx hb hts inX7 hown hK hP 0 rfl rfl 1 (by decide) (hts _ mw_168) (fun _ h9 => h9) rfl dX7_where_239 ?_
                            refine lv_iload hx hb dX7_where_242 (lv_at hl 2 rfl) ?_
                            refine z_iald hx hb hK hP 2 0 rfl rfl (e := i) rfl (by omega) (by omega) dX7_where_244 ?_
                            refine lv_icmp_le (tgt := 252) hx hb dX7_where_245 (by decide) (fun c_126 => ?_) (fun c_126 => ?_)
                            · have c_126 : (Y (nxt n i)).toInt ≤ (Y i).toInt := zc_le rfl rfl c_126
                              refine lv_iconst (v := 0) hx hb dX7_where_252 (by decide) ?_
                              refine lv_icmp_ne (tgt := 266) hx hb dX7_where_253 (by decide) (fun c_127 => ?_) (fun c_127 => ?_)
                              · have c_127 : ¬ 1 = 0 := zc_ne (by decide) (by decide) c_127
                                refine lv_iinc (v := nI (i + 1)) (lv' := [(4, .int (nI (i + 1))), (6, .int (iI (eCr n X Y i px.toInt py.toInt))), (5, .int (nI (nxt n i))), (3, .int (pI (par2 (eTg n X Y px.toInt py.toInt) i))), (0, .ref r), (1, .int px), (2, .int py)]) hx hb dX7_where_266 hl (k := 2) rfl (nI_add i 1) (by decide) rfl (fun ls hl => ?_)
                                refine lv_goto (tgt := 5) hx hb dX7_where_269 (by decide) ?_
                                have hl9 := lv_sub hl [0, 3, 4, 5, 6] rfl
                                have e9_3 : pI (par2 (eTg n X Y px.toInt py.toInt) (i + 1)) = (pI (par2 (eTg n X Y px.toInt py.toInt) i) : Int32) := by first | exact zp_iff (par2_n (sk_tg (by omega)).1) | exact zp_iff (par2_n (by unfold eTg; omega)) | exact zp_t ((par2_y (by unfold eTg; omega)).mpr (by assumption)) | exact zp_f (fun q => (par2_y (by unfold eTg; omega)).mp q (by assumption))
                                have hl9 : lv_has ls 7 [(4, .int (nI (i + 1))), (3, .int (pI (par2 (eTg n X Y px.toInt py.toInt) (i + 1)))), (0, .ref r), (1, .int px), (2, .int py)] := by rw [e9_3]; exact hl9
                                exact ih_5 (i + 1) H locs ls (by omega) (by omega) (by intro k hk; rcases Nat.lt_or_ge k i with h | h; exact hno k h; have e9 : k = i := (by omega); subst e9; first | exact (sk_tg (by omega)).2 | (unfold eOn onS; unfold eCr at *; omega)) hP hD hS hl9
                              · exact absurd c_127 (by decide)
                            · have c_126 : (Y i).toInt < (Y (nxt n i)).toInt := zc_nle rfl rfl c_126
                              refine lv_iconst (v := 1) hx hb dX7_where_248 (by decide) ?_
                              refine lv_goto (tgt := 253) hx hb dX7_where_249 (by decide) ?_
                              refine lv_icmp_ne (tgt := 266) hx hb dX7_where_253 (by decide) (fun c_128 => ?_) (fun c_128 => ?_)
                              · exact absurd (by decide) c_128
                              · have c_128 : 1 = 1 := zc_eq (by decide) (by decide) c_128
                                refine lv_iload_n hx hb dX7_where_256 rfl (lv_at hl 3 rfl) ?_
                                refine lv_if_ne (tgt := 264) hx hb dX7_where_257 (by decide) (fun c_129 => ?_) (fun c_129 => ?_)
                                · have c_129 : par2 (eTg n X Y px.toInt py.toInt) i := zp_1 c_129
                                  refine lv_iconst (v := 0) hx hb dX7_where_264 (by decide) ?_
                                  refine lv_istore_n (lv' := [(3, .int 0), (6, .int (iI (eCr n X Y i px.toInt py.toInt))), (5, .int (nI (nxt n i))), (4, .int (nI i)), (0, .ref r), (1, .int px), (2, .int py)]) hx hb dX7_where_265 rfl hl (by decide) rfl (fun ls hl => ?_)
                                  refine lv_iinc (v := nI (i + 1)) (lv' := [(4, .int (nI (i + 1))), (3, .int 0), (6, .int (iI (eCr n X Y i px.toInt py.toInt))), (5, .int (nI (nxt n i))), (0, .ref r), (1, .int px), (2, .int py)]) hx hb dX7_where_266 hl (k := 3) rfl (nI_add i 1) (by decide) rfl (fun ls hl => ?_)
                                  refine lv_goto (tgt := 5) hx hb dX7_where_269 (by decide) ?_
                                  have hl9 := lv_sub hl [0, 1, 4, 5, 6] rfl
                                  have e9_3 : pI (par2 (eTg n X Y px.toInt py.toInt) (i + 1)) = (0 : Int32) := by first | exact zp_iff (par2_n (sk_tg (by omega)).1) | exact zp_iff (par2_n (by unfold eTg; omega)) | exact zp_t ((par2_y (by unfold eTg; omega)).mpr (by assumption)) | exact zp_f (fun q => (par2_y (by unfold eTg; omega)).mp q (by assumption))
                                  have hl9 : lv_has ls 7 [(4, .int (nI (i + 1))), (3, .int (pI (par2 (eTg n X Y px.toInt py.toInt) (i + 1)))), (0, .ref r), (1, .int px), (2, .int py)] := by rw [e9_3]; exact hl9
                                  exact ih_5 (i + 1) H locs ls (by omega) (by omega) (by intro k hk; rcases Nat.lt_or_ge k i with h | h; exact hno k h; have e9 : k = i := (by omega); subst e9; first | exact (sk_tg (by omega)).2 | (unfold eOn onS; unfold eCr at *; omega)) hP hD hS hl9
                                · have c_129 : ¬ (par2 (eTg n X Y px.toInt py.toInt) i) := zp_0 c_129
                                  refine lv_iconst (v := 1) hx hb dX7_where_260 (by decide) ?_
                                  refine lv_goto (tgt := 265) hx hb dX7_where_261 (by decide) ?_
                                  refine lv_istore_n (lv' := [(3, .int 1), (6, .int (iI (eCr n X Y i px.toInt py.toInt))), (5, .int (nI (nxt n i))), (4, .int (nI i)), (0, .ref r), (1, .int px), (2, .int py)]) hx hb dX7_where_265 rfl hl (by decide) rfl (fun ls hl => ?_)
                                  refine lv_iinc (v := nI (i + 1)) (lv' := [(4, .int (nI (i + 1))), (3, .int 1), (6, .int (iI (eCr n X Y i px.toInt py.toInt))), (5, .int (nI (nxt n i))), (0, .ref r), (1, .int px), (2, .int py)]) hx hb dX7_where_266 hl (k := 3) rfl (nI_add i 1) (by decide) rfl (fun ls hl => ?_)
                                  refine lv_goto (tgt := 5) hx hb dX7_where_269 (by decide) ?_
                                  have hl9 := lv_sub hl [0, 1, 4, 5, 6] rfl
                                  have e9_3 : pI (par2 (eTg n X Y px.toInt py.toInt) (i + 1)) = (1 : Int32) := by first | exact zp_iff (par2_n (sk_tg (by omega)).1) | exact zp_iff (par2_n (by unfold eTg; omega)) | exact zp_t ((par2_y (by unfold eTg; omega)).mpr (by assumption)) | exact zp_f (fun q => (par2_y (by unfold eTg; omega)).mp q (by assumption))
                                  have hl9 : lv_has ls 7 [(4, .int (nI (i + 1))), (3, .int (pI (par2 (eTg n X Y px.toInt py.toInt) (i + 1)))), (0, .ref r), (1, .int px), (2, .int py)] := by rw [e9_3]; exact hl9
                                  exact ih_5 (i + 1) H locs ls (by omega) (by omega) (by intro k hk; rcases Nat.lt_or_ge k i with h | h; exact hno k h; have e9 : k = i := (by omega); subst e9; first | exact (sk_tg (by omega)).2 | (unfold eOn onS; unfold eCr at *; omega)) hP hD hS hl9
                    · have c_117 : py.toInt < (Y i).toInt := zc_nle rfl rfl c_117
                      refine lv_iconst (v := 1) hx hb dX7_where_197 (by decide) ?_
                      refine lv_goto (tgt := 202) hx hb dX7_where_198 (by decide) ?_
                      refine lv_aload_n hx hb dX7_where_202 rfl (lv_at hl 4 rfl) ?_
                      refine va_get (D := (dC, dI)) (ci := 6) (v := .ref ry) (C := RX7) (T := TX7) (N := 4) hx hb hts inX7 hown hK hP 0 rfl rfl 1 (by decide) (hts _ mw_168) (fun _ h9 => h9) rfl dX7_where_203 ?_
                      refine lv_iload hx hb dX7_where_206 (lv_at hl 1 rfl) ?_
                      refine z_iald hx hb hK hP 2 0 rfl rfl (e := nxt n i) rfl (by omega) (by omega) dX7_where_208 ?_
                      refine lv_iload_n hx hb dX7_where_209 rfl (lv_at hl 6 rfl) ?_
                      refine lv_icmp_le (tgt := 217) hx hb dX7_where_210 (by decide) (fun c_130 => ?_) (fun c_130 => ?_)
                      · have c_130 : (Y (nxt n i)).toInt ≤ py.toInt := zc_le rfl rfl c_130
                        refine lv_iconst (v := 0) hx hb dX7_where_217 (by decide) ?_
                        refine lv_icmp_eq (tgt := 266) hx hb dX7_where_218 (by decide) (fun c_131 => ?_) (fun c_131 => ?_)
                        · exact absurd c_131 (by decide)
                        · have c_131 : ¬ 1 = 0 := zc_ne (by decide) (by decide) c_131
                          refine lv_iload hx hb dX7_where_221 (lv_at hl 0 rfl) ?_
                          refine lv_if_le (tgt := 230) hx hb dX7_where_223 (by decide) (fun c_132 => ?_) (fun c_132 => ?_)
                          · have c_132 : (eCr n X Y i px.toInt py.toInt) ≤ 0 := zc_le (iI_toInt (by omega)) (by decide) c_132
                            refine lv_iconst (v := 0) hx hb dX7_where_230 (by decide) ?_
                            refine lv_aload_n hx hb dX7_where_231 rfl (lv_at hl 4 rfl) ?_
                            refine va_get (D := (dC, dI)) (ci := 6) (v := .ref ry) (C := RX7) (T := TX7) (N := 4) hx hb hts inX7 hown hK hP 0 rfl rfl 1 (by decide) (hts _ mw_168) (fun _ h9 => h9) rfl dX7_where_232 ?_
                            refine lv_iload hx hb dX7_where_235 (lv_at hl 1 rfl) ?_
                            refine z_iald hx hb hK hP 2 0 rfl rfl (e := nxt n i) rfl (by omega) (by omega) dX7_where_237 ?_
                            refine lv_aload_n hx hb dX7_where_238 rfl (lv_at hl 4 rfl) ?_
                            refine va_get (D := (dC, dI)) (ci := 6) (v := .ref ry) (C := RX7) (T := TX7) (N := 4) hx hb hts inX7 hown hK hP 0 rfl rfl 1 (by decide) (hts _ mw_168) (fun _ h9 => h9) rfl dX7_where_239 ?_
                            refine lv_iload hx hb dX7_where_242 (lv_at hl 2 rfl) ?_
                            refine z_iald hx hb hK hP 2 0 rfl rfl (e := i) rfl (by omega) (by omega) dX7_where_244 ?_
                            refine lv_icmp_le (tgt := 252) hx hb dX7_where_245 (by decide) (fun c_133 => ?_) (fun c_133 => ?_)
                            · have c_133 : (Y (nxt n i)).toInt ≤ (Y i).toInt := zc_le rfl rfl c_133
                              refine lv_iconst (v := 0) hx hb dX7_where_252 (by decide) ?_
                              refine lv_icmp_ne (tgt := 266) hx hb dX7_where_253 (by decide) (fun c_134 => ?_) (fun c_134 => ?_)
                              · exact absurd (by decide) c_134
                              · have c_134 : 0 = 0 := zc_eq (by decide) (by decide) c_134
                                refine lv_iload_n hx hb dX7_where_256 rfl (lv_at hl 3 rfl) ?_
                                refine lv_if_ne (tgt := 264) hx hb dX7_where_257 (by decide) (fun c_135 => ?_) (fun c_135 => ?_)
                                · have c_135 : par2 (eTg n X Y px.toInt py.toInt) i := zp_1 c_135
                                  refine lv_iconst (v := 0) hx hb dX7_where_264 (by decide) ?_
                                  refine lv_istore_n (lv' := [(3, .int 0), (6, .int (iI (eCr n X Y i px.toInt py.toInt))), (5, .int (nI (nxt n i))), (4, .int (nI i)), (0, .ref r), (1, .int px), (2, .int py)]) hx hb dX7_where_265 rfl hl (by decide) rfl (fun ls hl => ?_)
                                  refine lv_iinc (v := nI (i + 1)) (lv' := [(4, .int (nI (i + 1))), (3, .int 0), (6, .int (iI (eCr n X Y i px.toInt py.toInt))), (5, .int (nI (nxt n i))), (0, .ref r), (1, .int px), (2, .int py)]) hx hb dX7_where_266 hl (k := 3) rfl (nI_add i 1) (by decide) rfl (fun ls hl => ?_)
                                  refine lv_goto (tgt := 5) hx hb dX7_where_269 (by decide) ?_
                                  have hl9 := lv_sub hl [0, 1, 4, 5, 6] rfl
                                  have e9_3 : pI (par2 (eTg n X Y px.toInt py.toInt) (i + 1)) = (0 : Int32) := by first | exact zp_iff (par2_n (sk_tg (by omega)).1) | exact zp_iff (par2_n (by unfold eTg; omega)) | exact zp_t ((par2_y (by unfold eTg; omega)).mpr (by assumption)) | exact zp_f (fun q => (par2_y (by unfold eTg; omega)).mp q (by assumption))
                                  have hl9 : lv_has ls 7 [(4, .int (nI (i + 1))), (3, .int (pI (par2 (eTg n X Y px.toInt py.toInt) (i + 1)))), (0, .ref r), (1, .int px), (2, .int py)] := by rw [e9_3]; exact hl9
                                  exact ih_5 (i + 1) H locs ls (by omega) (by omega) (by intro k hk; rcases Nat.lt_or_ge k i with h | h; exact hno k h; have e9 : k = i := (by omega); subst e9; first | exact (sk_tg (by omega)).2 | (unfold eOn onS; unfold eCr at *; omega)) hP hD hS hl9
                                · have c_135 : ¬ (par2 (eTg n X Y px.toInt py.toInt) i) := zp_0 c_135
                                  refine lv_iconst (v := 1) hx hb dX7_where_260 (by decide) ?_
                                  refine lv_goto (tgt := 265) hx hb dX7_where_261 (by decide) ?_
                                  refine lv_istore_n (lv' := [(3, .int 1), (6, .int (iI (eCr n X Y i px.toInt py.toInt))), (5, .int (nI (nxt n i))), (4, .int (nI i)), (0, .ref r), (1, .int px), (2, .int py)]) hx hb dX7_where_265 rfl hl (by decide) rfl (fun ls hl => ?_)
                                  refine lv_iinc (v := nI (i + 1)) (lv' := [(4, .int (nI (i + 1))), (3, .int 1), (6, .int (iI (eCr n X Y i px.toInt py.toInt))), (5, .int (nI (nxt n i))), (0, .ref r), (1, .int px), (2, .int py)]) hx hb dX7_where_266 hl (k := 3) rfl (nI_add i 1) (by decide) rfl (fun ls hl => ?_)
                                  refine lv_goto (tgt := 5) hx hb dX7_where_269 (by decide) ?_
                                  have hl9 := lv_sub hl [0, 1, 4, 5, 6] rfl
                                  have e9_3 : pI (par2 (eTg n X Y px.toInt py.toInt) (i + 1)) = (1 : Int32) := by first | exact zp_iff (par2_n (sk_tg (by omega)).1) | exact zp_iff (par2_n (by unfold eTg; omega)) | exact zp_t ((par2_y (by unfold eTg; omega)).mpr (by assumption)) | exact zp_f (fun q => (par2_y (by unfold eTg; omega)).mp q (by assumption))
                                  have hl9 : lv_has ls 7 [(4, .int (nI (i + 1))), (3, .int (pI (par2 (eTg n X Y px.toInt py.toInt) (i + 1)))), (0, .ref r), (1, .int px), (2, .int py)] := by rw [e9_3]; exact hl9
                                  exact ih_5 (i + 1) H locs ls (by omega) (by omega) (by intro k hk; rcases Nat.lt_or_ge k i with h | h; exact hno k h; have e9 : k = i := (by omega); subst e9; first | exact (sk_tg (by omega)).2 | (unfold eOn onS; unfold eCr at *; omega)) hP hD hS hl9
                            · have c_133 : (Y i).toInt < (Y (nxt n i)).toInt := zc_nle rfl rfl c_133
                              refine lv_iconst (v := 1) hx hb dX7_where_248 (by decide) ?_
                              refine lv_goto (tgt := 253) hx hb dX7_where_249 (by decide) ?_
                              refine lv_icmp_ne (tgt := 266) hx hb dX7_where_253 (by decide) (fun c_136 => ?_) (fun c_136 => ?_)
                              · have c_136 : ¬ 0 = 1 := zc_ne (by decide) (by decide) c_136
                                refine lv_iinc (v := nI (i + 1)) (lv' := [(4, .int (nI (i + 1))), (6, .int (iI (eCr n X Y i px.toInt py.toInt))), (5, .int (nI (nxt n i))), (3, .int (pI (par2 (eTg n X Y px.toInt py.toInt) i))), (0, .ref r), (1, .int px), (2, .int py)]) hx hb dX7_where_266 hl (k := 2) rfl (nI_add i 1) (by decide) rfl (fun ls hl => ?_)
                                refine lv_goto (tgt := 5) hx hb dX7_where_269 (by decide) ?_
                                have hl9 := lv_sub hl [0, 3, 4, 5, 6] rfl
                                have e9_3 : pI (par2 (eTg n X Y px.toInt py.toInt) (i + 1)) = (pI (par2 (eTg n X Y px.toInt py.toInt) i) : Int32) := by first | exact zp_iff (par2_n (sk_tg (by omega)).1) | exact zp_iff (par2_n (by unfold eTg; omega)) | exact zp_t ((par2_y (by unfold eTg; omega)).mpr (by assumption)) | exact zp_f (fun q => (par2_y (by unfold eTg; omega)).mp q (by assumption))
                                have hl9 : lv_has ls 7 [(4, .int (nI (i + 1))), (3, .int (pI (par2 (eTg n X Y px.toInt py.toInt) (i + 1)))), (0, .ref r), (1, .int px), (2, .int py)] := by rw [e9_3]; exact hl9
                                exact ih_5 (i + 1) H locs ls (by omega) (by omega) (by intro k hk; rcases Nat.lt_or_ge k i with h | h; exact hno k h; have e9 : k = i := (by omega); subst e9; first | exact (sk_tg (by omega)).2 | (unfold eOn onS; unfold eCr at *; omega)) hP hD hS hl9
                              · exact absurd c_136 (by decide)
                          · have c_132 : 0 < (eCr n X Y i px.toInt py.toInt) := zc_nle (iI_toInt (by omega)) (by decide) c_132
                            refine lv_iconst (v := 1) hx hb dX7_where_226 (by decide) ?_
                            refine lv_goto (tgt := 231) hx hb dX7_where_227 (by decide) ?_
                            refine lv_aload_n hx hb dX7_where_231 rfl (lv_at hl 4 rfl) ?_
                            refine va_get (D := (dC, dI)) (ci := 6) (v := .ref ry) (C := RX7) (T := TX7) (N := 4) hx hb hts inX7 hown hK hP 0 rfl rfl 1 (by decide) (hts _ mw_168) (fun _ h9 => h9) rfl dX7_where_232 ?_
                            refine lv_iload hx hb dX7_where_235 (lv_at hl 1 rfl) ?_
                            refine z_iald hx hb hK hP 2 0 rfl rfl (e := nxt n i) rfl (by omega) (by omega) dX7_where_237 ?_
                            refine lv_aload_n hx hb dX7_where_238 rfl (lv_at hl 4 rfl) ?_
                            refine va_get (D := (dC, dI)) (ci := 6) (v := .ref ry) (C := RX7) (T := TX7) (N := 4) hx hb hts inX7 hown hK hP 0 rfl rfl 1 (by decide) (hts _ mw_168) (fun _ h9 => h9) rfl dX7_where_239 ?_
                            refine lv_iload hx hb dX7_where_242 (lv_at hl 2 rfl) ?_
                            refine z_iald hx hb hK hP 2 0 rfl rfl (e := i) rfl (by omega) (by omega) dX7_where_244 ?_
                            refine lv_icmp_le (tgt := 252) hx hb dX7_where_245 (by decide) (fun c_137 => ?_) (fun c_137 => ?_)
                            · have c_137 : (Y (nxt n i)).toInt ≤ (Y i).toInt := zc_le rfl rfl c_137
                              refine lv_iconst (v := 0) hx hb dX7_where_252 (by decide) ?_
                              refine lv_icmp_ne (tgt := 266) hx hb dX7_where_253 (by decide) (fun c_138 => ?_) (fun c_138 => ?_)
                              · have c_138 : ¬ 1 = 0 := zc_ne (by decide) (by decide) c_138
                                refine lv_iinc (v := nI (i + 1)) (lv' := [(4, .int (nI (i + 1))), (6, .int (iI (eCr n X Y i px.toInt py.toInt))), (5, .int (nI (nxt n i))), (3, .int (pI (par2 (eTg n X Y px.toInt py.toInt) i))), (0, .ref r), (1, .int px), (2, .int py)]) hx hb dX7_where_266 hl (k := 2) rfl (nI_add i 1) (by decide) rfl (fun ls hl => ?_)
                                refine lv_goto (tgt := 5) hx hb dX7_where_269 (by decide) ?_
                                have hl9 := lv_sub hl [0, 3, 4, 5, 6] rfl
                                have e9_3 : pI (par2 (eTg n X Y px.toInt py.toInt) (i + 1)) = (pI (par2 (eTg n X Y px.toInt py.toInt) i) : Int32) := by first | exact zp_iff (par2_n (sk_tg (by omega)).1) | exact zp_iff (par2_n (by unfold eTg; omega)) | exact zp_t ((par2_y (by unfold eTg; omega)).mpr (by assumption)) | exact zp_f (fun q => (par2_y (by unfold eTg; omega)).mp q (by assumption))
                                have hl9 : lv_has ls 7 [(4, .int (nI (i + 1))), (3, .int (pI (par2 (eTg n X Y px.toInt py.toInt) (i + 1)))), (0, .ref r), (1, .int px), (2, .int py)] := by rw [e9_3]; exact hl9
                                exact ih_5 (i + 1) H locs ls (by omega) (by omega) (by intro k hk; rcases Nat.lt_or_ge k i with h | h; exact hno k h; have e9 : k = i := (by omega); subst e9; first | exact (sk_tg (by omega)).2 | (unfold eOn onS; unfold eCr at *; omega)) hP hD hS hl9
                              · exact absurd c_138 (by decide)
                            · have c_137 : (Y i).toInt < (Y (nxt n i)).toInt := zc_nle rfl rfl c_137
                              refine lv_iconst (v := 1) hx hb dX7_where_248 (by decide) ?_
                              refine lv_goto (tgt := 253) hx hb dX7_where_249 (by decide) ?_
                              refine lv_icmp_ne (tgt := 266) hx hb dX7_where_253 (by decide) (fun c_139 => ?_) (fun c_139 => ?_)
                              · exact absurd (by decide) c_139
                              · have c_139 : 1 = 1 := zc_eq (by decide) (by decide) c_139
                                refine lv_iload_n hx hb dX7_where_256 rfl (lv_at hl 3 rfl) ?_
                                refine lv_if_ne (tgt := 264) hx hb dX7_where_257 (by decide) (fun c_140 => ?_) (fun c_140 => ?_)
                                · have c_140 : par2 (eTg n X Y px.toInt py.toInt) i := zp_1 c_140
                                  refine lv_iconst (v := 0) hx hb dX7_where_264 (by decide) ?_
                                  refine lv_istore_n (lv' := [(3, .int 0), (6, .int (iI (eCr n X Y i px.toInt py.toInt))), (5, .int (nI (nxt n i))), (4, .int (nI i)), (0, .ref r), (1, .int px), (2, .int py)]) hx hb dX7_where_265 rfl hl (by decide) rfl (fun ls hl => ?_)
                                  refine lv_iinc (v := nI (i + 1)) (lv' := [(4, .int (nI (i + 1))), (3, .int 0), (6, .int (iI (eCr n X Y i px.toInt py.toInt))), (5, .int (nI (nxt n i))), (0, .ref r), (1, .int px), (2, .int py)]) hx hb dX7_where_266 hl (k := 3) rfl (nI_add i 1) (by decide) rfl (fun ls hl => ?_)
                                  refine lv_goto (tgt := 5) hx hb dX7_where_269 (by decide) ?_
                                  have hl9 := lv_sub hl [0, 1, 4, 5, 6] rfl
                                  have e9_3 : pI (par2 (eTg n X Y px.toInt py.toInt) (i + 1)) = (0 : Int32) := by first | exact zp_iff (par2_n (sk_tg (by omega)).1) | exact zp_iff (par2_n (by unfold eTg; omega)) | exact zp_t ((par2_y (by unfold eTg; omega)).mpr (by assumption)) | exact zp_f (fun q => (par2_y (by unfold eTg; omega)).mp q (by assumption))
                                  have hl9 : lv_has ls 7 [(4, .int (nI (i + 1))), (3, .int (pI (par2 (eTg n X Y px.toInt py.toInt) (i + 1)))), (0, .ref r), (1, .int px), (2, .int py)] := by rw [e9_3]; exact hl9
                                  exact ih_5 (i + 1) H locs ls (by omega) (by omega) (by intro k hk; rcases Nat.lt_or_ge k i with h | h; exact hno k h; have e9 : k = i := (by omega); subst e9; first | exact (sk_tg (by omega)).2 | (unfold eOn onS; unfold eCr at *; omega)) hP hD hS hl9
                                · have c_140 : ¬ (par2 (eTg n X Y px.toInt py.toInt) i) := zp_0 c_140
                                  refine lv_iconst (v := 1) hx hb dX7_where_260 (by decide) ?_
                                  refine lv_goto (tgt := 265) hx hb dX7_where_261 (by decide) ?_
                                  refine lv_istore_n (lv' := [(3, .int 1), (6, .int (iI (eCr n X Y i px.toInt py.toInt))), (5, .int (nI (nxt n i))), (4, .int (nI i)), (0, .ref r), (1, .int px), (2, .int py)]) hx hb dX7_where_265 rfl hl (by decide) rfl (fun ls hl => ?_)
                                  refine lv_iinc (v := nI (i + 1)) (lv' := [(4, .int (nI (i + 1))), (3, .int 1), (6, .int (iI (eCr n X Y i px.toInt py.toInt))), (5, .int (nI (nxt n i))), (0, .ref r), (1, .int px), (2, .int py)]) hx hb dX7_where_266 hl (k := 3) rfl (nI_add i 1) (by decide) rfl (fun ls hl => ?_)
                                  refine lv_goto (tgt := 5) hx hb dX7_where_269 (by decide) ?_
                                  have hl9 := lv_sub hl [0, 1, 4, 5, 6] rfl
                                  have e9_3 : pI (par2 (eTg n X Y px.toInt py.toInt) (i + 1)) = (1 : Int32) := by first | exact zp_iff (par2_n (sk_tg (by omega)).1) | exact zp_iff (par2_n (by unfold eTg; omega)) | exact zp_t ((par2_y (by unfold eTg; omega)).mpr (by assumption)) | exact zp_f (fun q => (par2_y (by unfold eTg; omega)).mp q (by assumption))
                                  have hl9 : lv_has ls 7 [(4, .int (nI (i + 1))), (3, .int (pI (par2 (eTg n X Y px.toInt py.toInt) (i + 1)))), (0, .ref r), (1, .int px), (2, .int py)] := by rw [e9_3]; exact hl9
                                  exact ih_5 (i + 1) H locs ls (by omega) (by omega) (by intro k hk; rcases Nat.lt_or_ge k i with h | h; exact hno k h; have e9 : k = i := (by omega); subst e9; first | exact (sk_tg (by omega)).2 | (unfold eOn onS; unfold eCr at *; omega)) hP hD hS hl9
                      · have c_130 : py.toInt < (Y (nxt n i)).toInt := zc_nle rfl rfl c_130
                        refine lv_iconst (v := 1) hx hb dX7_where_213 (by decide) ?_
                        refine lv_goto (tgt := 218) hx hb dX7_where_214 (by decide) ?_
                        refine lv_icmp_eq (tgt := 266) hx hb dX7_where_218 (by decide) (fun c_141 => ?_) (fun c_141 => ?_)
                        · have c_141 : 1 = 1 := zc_eq (by decide) (by decide) c_141
                          refine lv_iinc (v := nI (i + 1)) (lv' := [(4, .int (nI (i + 1))), (6, .int (iI (eCr n X Y i px.toInt py.toInt))), (5, .int (nI (nxt n i))), (3, .int (pI (par2 (eTg n X Y px.toInt py.toInt) i))), (0, .ref r), (1, .int px), (2, .int py)]) hx hb dX7_where_266 hl (k := 2) rfl (nI_add i 1) (by decide) rfl (fun ls hl => ?_)
                          refine lv_goto (tgt := 5) hx hb dX7_where_269 (by decide) ?_
                          have hl9 := lv_sub hl [0, 3, 4, 5, 6] rfl
                          have e9_3 : pI (par2 (eTg n X Y px.toInt py.toInt) (i + 1)) = (pI (par2 (eTg n X Y px.toInt py.toInt) i) : Int32) := by first | exact zp_iff (par2_n (sk_tg (by omega)).1) | exact zp_iff (par2_n (by unfold eTg; omega)) | exact zp_t ((par2_y (by unfold eTg; omega)).mpr (by assumption)) | exact zp_f (fun q => (par2_y (by unfold eTg; omega)).mp q (by assumption))
                          have hl9 : lv_has ls 7 [(4, .int (nI (i + 1))), (3, .int (pI (par2 (eTg n X Y px.toInt py.toInt) (i + 1)))), (0, .ref r), (1, .int px), (2, .int py)] := by rw [e9_3]; exact hl9
                          exact ih_5 (i + 1) H locs ls (by omega) (by omega) (by intro k hk; rcases Nat.lt_or_ge k i with h | h; exact hno k h; have e9 : k = i := (by omega); subst e9; first | exact (sk_tg (by omega)).2 | (unfold eOn onS; unfold eCr at *; omega)) hP hD hS hl9
                        · exact absurd (by decide) c_141
                  · have c_116 : (eCr n X Y i px.toInt py.toInt) = 0 := zc_eq (iI_toInt (by omega)) (by decide) c_116
                    refine lv_aload_n hx hb dX7_where_162 rfl (lv_at hl 4 rfl) ?_
                    refine va_get (D := (dC, dI)) (ci := 6) (v := .ref rx) (C := RX7) (T := TX7) (N := 4) hx hb hts inX7 hown hK hP 0 rfl rfl 0 (by decide) (hts _ mw_161) (fun _ h9 => h9) rfl dX7_where_163 ?_
                    refine lv_iload hx hb dX7_where_166 (lv_at hl 2 rfl) ?_
                    refine z_iald hx hb hK hP 1 0 rfl rfl (e := i) rfl (by omega) (by omega) dX7_where_168 ?_
                    refine lv_iload_n hx hb dX7_where_169 rfl (lv_at hl 5 rfl) ?_
                    refine lv_icmp_le (tgt := 184) hx hb dX7_where_170 (by decide) (fun c_142 => ?_) (fun c_142 => ?_)
                    · have c_142 : (X i).toInt ≤ px.toInt := zc_le rfl rfl c_142
                      refine lv_iconst (v := 2) hx hb dX7_where_184 (by decide) ?_
                      have hP9 := hP.sub (ws' := [(r, .inr (6, [.ref rx, .ref ry, .int (nI n), .int rg])), (rx, .inl (cI, cap, .inl X)), (ry, .inl (cI, cap, .inl Y))]) [0, 1, 2] rfl
                      have hD9 := hD.sub (ws' := [(r, .inr (6, [.ref rx, .ref ry, .int (nI n), .int rg])), (rx, .inl (cI, cap, .inl X)), (ry, .inl (cI, cap, .inl Y))]) [0, 1, 2] (by decide) rfl
                      rw [hQ9]
                      exact W.iret (v := 2) hx hb hr (fun t ht hW => ⟨⟨congrArg (fun z => Outcome.returned (some (Value.int z))) (show (2 : Int32) = whr n X Y px.toInt py.toInt from (whr_2 ⟨i, by omega, by unfold eOn onS; unfold eCr at *; omega⟩).symm), by rw [ht]; exact hP9, hD9⟩, hS.F ht⟩) hS.2.2 dX7_where_185
                    · have c_142 : px.toInt < (X i).toInt := zc_nle rfl rfl c_142
                      refine lv_aload_n hx hb dX7_where_173 rfl (lv_at hl 4 rfl) ?_
                      refine va_get (D := (dC, dI)) (ci := 6) (v := .ref rx) (C := RX7) (T := TX7) (N := 4) hx hb hts inX7 hown hK hP 0 rfl rfl 0 (by decide) (hts _ mw_161) (fun _ h9 => h9) rfl dX7_where_174 ?_
                      refine lv_iload hx hb dX7_where_177 (lv_at hl 1 rfl) ?_
                      refine z_iald hx hb hK hP 1 0 rfl rfl (e := nxt n i) rfl (by omega) (by omega) dX7_where_179 ?_
                      refine lv_iload_n hx hb dX7_where_180 rfl (lv_at hl 5 rfl) ?_
                      refine lv_icmp_gt (tgt := 186) hx hb dX7_where_181 (by decide) (fun c_143 => ?_) (fun c_143 => ?_)
                      · have c_143 : px.toInt < (X (nxt n i)).toInt := zc_lt rfl rfl c_143
                        refine lv_aload_n hx hb dX7_where_186 rfl (lv_at hl 4 rfl) ?_
                        refine va_get (D := (dC, dI)) (ci := 6) (v := .ref ry) (C := RX7) (T := TX7) (N := 4) hx hb hts inX7 hown hK hP 0 rfl rfl 1 (by decide) (hts _ mw_168) (fun _ h9 => h9) rfl dX7_where_187 ?_
                        refine lv_iload hx hb dX7_where_190 (lv_at hl 2 rfl) ?_
                        refine z_iald hx hb hK hP 2 0 rfl rfl (e := i) rfl (by omega) (by omega) dX7_where_192 ?_
                        refine lv_iload_n hx hb dX7_where_193 rfl (lv_at hl 6 rfl) ?_
                        refine lv_icmp_le (tgt := 201) hx hb dX7_where_194 (by decide) (fun c_144 => ?_) (fun c_144 => ?_)
                        · have c_144 : (Y i).toInt ≤ py.toInt := zc_le rfl rfl c_144
                          refine lv_iconst (v := 0) hx hb dX7_where_201 (by decide) ?_
                          refine lv_aload_n hx hb dX7_where_202 rfl (lv_at hl 4 rfl) ?_
                          refine va_get (D := (dC, dI)) (ci := 6) (v := .ref ry) (C := RX7) (T := TX7) (N := 4) hx hb hts inX7 hown hK hP 0 rfl rfl 1 (by decide) (hts _ mw_168) (fun _ h9 => h9) rfl dX7_where_203 ?_
                          refine lv_iload hx hb dX7_where_206 (lv_at hl 1 rfl) ?_
                          refine z_iald hx hb hK hP 2 0 rfl rfl (e := nxt n i) rfl (by omega) (by omega) dX7_where_208 ?_
                          refine lv_iload_n hx hb dX7_where_209 rfl (lv_at hl 6 rfl) ?_
                          refine lv_icmp_le (tgt := 217) hx hb dX7_where_210 (by decide) (fun c_145 => ?_) (fun c_145 => ?_)
                          · have c_145 : (Y (nxt n i)).toInt ≤ py.toInt := zc_le rfl rfl c_145
                            refine lv_iconst (v := 0) hx hb dX7_where_217 (by decide) ?_
                            refine lv_icmp_eq (tgt := 266) hx hb dX7_where_218 (by decide) (fun c_146 => ?_) (fun c_146 => ?_)
                            · have c_146 : 0 = 0 := zc_eq (by decide) (by decide) c_146
                              refine lv_iinc (v := nI (i + 1)) (lv' := [(4, .int (nI (i + 1))), (6, .int (iI (eCr n X Y i px.toInt py.toInt))), (5, .int (nI (nxt n i))), (3, .int (pI (par2 (eTg n X Y px.toInt py.toInt) i))), (0, .ref r), (1, .int px), (2, .int py)]) hx hb dX7_where_266 hl (k := 2) rfl (nI_add i 1) (by decide) rfl (fun ls hl => ?_)
                              refine lv_goto (tgt := 5) hx hb dX7_where_269 (by decide) ?_
                              have hl9 := lv_sub hl [0, 3, 4, 5, 6] rfl
                              have e9_3 : pI (par2 (eTg n X Y px.toInt py.toInt) (i + 1)) = (pI (par2 (eTg n X Y px.toInt py.toInt) i) : Int32) := by first | exact zp_iff (par2_n (sk_tg (by omega)).1) | exact zp_iff (par2_n (by unfold eTg; omega)) | exact zp_t ((par2_y (by unfold eTg; omega)).mpr (by assumption)) | exact zp_f (fun q => (par2_y (by unfold eTg; omega)).mp q (by assumption))
                              have hl9 : lv_has ls 7 [(4, .int (nI (i + 1))), (3, .int (pI (par2 (eTg n X Y px.toInt py.toInt) (i + 1)))), (0, .ref r), (1, .int px), (2, .int py)] := by rw [e9_3]; exact hl9
                              exact ih_5 (i + 1) H locs ls (by omega) (by omega) (by intro k hk; rcases Nat.lt_or_ge k i with h | h; exact hno k h; have e9 : k = i := (by omega); subst e9; first | exact (sk_tg (by omega)).2 | (unfold eOn onS; unfold eCr at *; omega)) hP hD hS hl9
                            · exact absurd (by decide) c_146
                          · have c_145 : py.toInt < (Y (nxt n i)).toInt := zc_nle rfl rfl c_145
                            refine lv_iconst (v := 1) hx hb dX7_where_213 (by decide) ?_
                            refine lv_goto (tgt := 218) hx hb dX7_where_214 (by decide) ?_
                            refine lv_icmp_eq (tgt := 266) hx hb dX7_where_218 (by decide) (fun c_147 => ?_) (fun c_147 => ?_)
                            · exact absurd c_147 (by decide)
                            · have c_147 : ¬ 0 = 1 := zc_ne (by decide) (by decide) c_147
                              refine lv_iload hx hb dX7_where_221 (lv_at hl 0 rfl) ?_
                              refine lv_if_le (tgt := 230) hx hb dX7_where_223 (by decide) (fun c_148 => ?_) (fun c_148 => ?_)
                              · have c_148 : (eCr n X Y i px.toInt py.toInt) ≤ 0 := zc_le (iI_toInt (by omega)) (by decide) c_148
                                refine lv_iconst (v := 0) hx hb dX7_where_230 (by decide) ?_
                                refine lv_aload_n hx hb dX7_where_231 rfl (lv_at hl 4 rfl) ?_
                                refine va_get (D := (dC, dI)) (ci := 6) (v := .ref ry) (C := RX7) (T := TX7) (N := 4) hx hb hts inX7 hown hK hP 0 rfl rfl 1 (by decide) (hts _ mw_168) (fun _ h9 => h9) rfl dX7_where_232 ?_
                                refine lv_iload hx hb dX7_where_235 (lv_at hl 1 rfl) ?_
                                refine z_iald hx hb hK hP 2 0 rfl rfl (e := nxt n i) rfl (by omega) (by omega) dX7_where_237 ?_
                                refine lv_aload_n hx hb dX7_where_238 rfl (lv_at hl 4 rfl) ?_
                                refine va_get (D := (dC, dI)) (ci := 6) (v := .ref ry) (C := RX7) (T := TX7) (N := 4) hx hb hts inX7 hown hK hP 0 rfl rfl 1 (by decide) (hts _ mw_168) (fun _ h9 => h9) rfl dX7_where_239 ?_
                                refine lv_iload hx hb dX7_where_242 (lv_at hl 2 rfl) ?_
                                refine z_iald hx hb hK hP 2 0 rfl rfl (e := i) rfl (by omega) (by omega) dX7_where_244 ?_
                                refine lv_icmp_le (tgt := 252) hx hb dX7_where_245 (by decide) (fun c_149 => ?_) (fun c_149 => ?_)
                                · have c_149 : (Y (nxt n i)).toInt ≤ (Y i).toInt := zc_le rfl rfl c_149
                                  refine lv_iconst (v := 0) hx hb dX7_where_252 (by decide) ?_
                                  refine lv_icmp_ne (tgt := 266) hx hb dX7_where_253 (by decide) (fun c_150 => ?_) (fun c_150 => ?_)
                                  · exact absurd (by decide) c_150
                                  · have c_150 : 0 = 0 := zc_eq (by decide) (by decide) c_150
                                    refine lv_iload_n hx hb dX7_where_256 rfl (lv_at hl 3 rfl) ?_
                                    refine lv_if_ne (tgt := 264) hx hb dX7_where_257 (by decide) (fun c_151 => ?_) (fun c_151 => ?_)
                                    · have c_151 : par2 (eTg n X Y px.toInt py.toInt) i := zp_1 c_151
                                      refine lv_iconst (v := 0) hx hb dX7_where_264 (by decide) ?_
                                      refine lv_istore_n (lv' := [(3, .int 0), (6, .int (iI (eCr n X Y i px.toInt py.toInt))), (5, .int (nI (nxt n i))), (4, .int (nI i)), (0, .ref r), (1, .int px), (2, .int py)]) hx hb dX7_where_265 rfl hl (by decide) rfl (fun ls hl => ?_)
                                      refine lv_iinc (v := nI (i + 1)) (lv' := [(4, .int (nI (i + 1))), (3, .int 0), (6, .int (iI (eCr n X Y i px.toInt py.toInt))), (5, .int (nI (nxt n i))), (0, .ref r), (1, .int px), (2, .int py)]) hx hb dX7_where_266 hl (k := 3) rfl (nI_add i 1) (by decide) rfl (fun ls hl => ?_)
                                      refine lv_goto (tgt := 5) hx hb dX7_where_269 (by decide) ?_
                                      have hl9 := lv_sub hl [0, 1, 4, 5, 6] rfl
                                      have e9_3 : pI (par2 (eTg n X Y px.toInt py.toInt) (i + 1)) = (0 : Int32) := by first | exact zp_iff (par2_n (sk_tg (by omega)).1) | exact zp_iff (par2_n (by unfold eTg; omega)) | exact zp_t ((par2_y (by unfold eTg; omega)).mpr (by assumption)) | exact zp_f (fun q => (par2_y (by unfold eTg; omega)).mp q (by assumption))
                                      have hl9 : lv_has ls 7 [(4, .int (nI (i + 1))), (3, .int (pI (par2 (eTg n X Y px.toInt py.toInt) (i + 1)))), (0, .ref r), (1, .int px), (2, .int py)] := by rw [e9_3]; exact hl9
                                      exact ih_5 (i + 1) H locs ls (by omega) (by omega) (by intro k hk; rcases Nat.lt_or_ge k i with h | h; exact hno k h; have e9 : k = i := (by omega); subst e9; first | exact (sk_tg (by omega)).2 | (unfold eOn onS; unfold eCr at *; omega)) hP hD hS hl9
                                    · have c_151 : ¬ (par2 (eTg n X Y px.toInt py.toInt) i) := zp_0 c_151
                                      refine lv_iconst (v := 1) hx hb dX7_where_260 (by decide) ?_
                                      refine lv_goto (tgt := 265) hx hb dX7_where_261 (by decide) ?_
                                      refine lv_istore_n (lv' := [(3, .int 1), (6, .int (iI (eCr n X Y i px.toInt py.toInt))), (5, .int (nI (nxt n i))), (4, .int (nI i)), (0, .ref r), (1, .int px), (2, .int py)]) hx hb dX7_where_265 rfl hl (by decide) rfl (fun ls hl => ?_)
                                      refine lv_iinc (v := nI (i + 1)) (lv' := [(4, .int (nI (i + 1))), (3, .int 1), (6, .int (iI (eCr n X Y i px.toInt py.toInt))), (5, .int (nI (nxt n i))), (0, .ref r), (1, .int px), (2, .int py)]) hx hb dX7_where_266 hl (k := 3) rfl (nI_add i 1) (by decide) rfl (fun ls hl => ?_)
                                      refine lv_goto (tgt := 5) hx hb dX7_where_269 (by decide) ?_
                                      have hl9 := lv_sub hl [0, 1, 4, 5, 6] rfl
                                      have e9_3 : pI (par2 (eTg n X Y px.toInt py.toInt) (i + 1)) = (1 : Int32) := by first | exact zp_iff (par2_n (sk_tg (by omega)).1) | exact zp_iff (par2_n (by unfold eTg; omega)) | exact zp_t ((par2_y (by unfold eTg; omega)).mpr (by assumption)) | exact zp_f (fun q => (par2_y (by unfold eTg; omega)).mp q (by assumption))
                                      have hl9 : lv_has ls 7 [(4, .int (nI (i + 1))), (3, .int (pI (par2 (eTg n X Y px.toInt py.toInt) (i + 1)))), (0, .ref r), (1, .int px), (2, .int py)] := by rw [e9_3]; exact hl9
                                      exact ih_5 (i + 1) H locs ls (by omega) (by omega) (by intro k hk; rcases Nat.lt_or_ge k i with h | h; exact hno k h; have e9 : k = i := (by omega); subst e9; first | exact (sk_tg (by omega)).2 | (unfold eOn onS; unfold eCr at *; omega)) hP hD hS hl9
                                · have c_149 : (Y i).toInt < (Y (nxt n i)).toInt := zc_nle rfl rfl c_149
                                  refine lv_iconst (v := 1) hx hb dX7_where_248 (by decide) ?_
                                  refine lv_goto (tgt := 253) hx hb dX7_where_249 (by decide) ?_
                                  refine lv_icmp_ne (tgt := 266) hx hb dX7_where_253 (by decide) (fun c_152 => ?_) (fun c_152 => ?_)
                                  · have c_152 : ¬ 0 = 1 := zc_ne (by decide) (by decide) c_152
                                    refine lv_iinc (v := nI (i + 1)) (lv' := [(4, .int (nI (i + 1))), (6, .int (iI (eCr n X Y i px.toInt py.toInt))), (5, .int (nI (nxt n i))), (3, .int (pI (par2 (eTg n X Y px.toInt py.toInt) i))), (0, .ref r), (1, .int px), (2, .int py)]) hx hb dX7_where_266 hl (k := 2) rfl (nI_add i 1) (by decide) rfl (fun ls hl => ?_)
                                    refine lv_goto (tgt := 5) hx hb dX7_where_269 (by decide) ?_
                                    have hl9 := lv_sub hl [0, 3, 4, 5, 6] rfl
                                    have e9_3 : pI (par2 (eTg n X Y px.toInt py.toInt) (i + 1)) = (pI (par2 (eTg n X Y px.toInt py.toInt) i) : Int32) := by first | exact zp_iff (par2_n (sk_tg (by omega)).1) | exact zp_iff (par2_n (by unfold eTg; omega)) | exact zp_t ((par2_y (by unfold eTg; omega)).mpr (by assumption)) | exact zp_f (fun q => (par2_y (by unfold eTg; omega)).mp q (by assumption))
                                    have hl9 : lv_has ls 7 [(4, .int (nI (i + 1))), (3, .int (pI (par2 (eTg n X Y px.toInt py.toInt) (i + 1)))), (0, .ref r), (1, .int px), (2, .int py)] := by rw [e9_3]; exact hl9
                                    exact ih_5 (i + 1) H locs ls (by omega) (by omega) (by intro k hk; rcases Nat.lt_or_ge k i with h | h; exact hno k h; have e9 : k = i := (by omega); subst e9; first | exact (sk_tg (by omega)).2 | (unfold eOn onS; unfold eCr at *; omega)) hP hD hS hl9
                                  · exact absurd c_152 (by decide)
                              · have c_148 : 0 < (eCr n X Y i px.toInt py.toInt) := zc_nle (iI_toInt (by omega)) (by decide) c_148
                                refine lv_iconst (v := 1) hx hb dX7_where_226 (by decide) ?_
                                refine lv_goto (tgt := 231) hx hb dX7_where_227 (by decide) ?_
                                refine lv_aload_n hx hb dX7_where_231 rfl (lv_at hl 4 rfl) ?_
                                refine va_get (D := (dC, dI)) (ci := 6) (v := .ref ry) (C := RX7) (T := TX7) (N := 4) hx hb hts inX7 hown hK hP 0 rfl rfl 1 (by decide) (hts _ mw_168) (fun _ h9 => h9) rfl dX7_where_232 ?_
                                refine lv_iload hx hb dX7_where_235 (lv_at hl 1 rfl) ?_
                                refine z_iald hx hb hK hP 2 0 rfl rfl (e := nxt n i) rfl (by omega) (by omega) dX7_where_237 ?_
                                refine lv_aload_n hx hb dX7_where_238 rfl (lv_at hl 4 rfl) ?_
                                refine va_get (D := (dC, dI)) (ci := 6) (v := .ref ry) (C := RX7) (T := TX7) (N := 4) hx hb hts inX7 hown hK hP 0 rfl rfl 1 (by decide) (hts _ mw_168) (fun _ h9 => h9) rfl dX7_where_239 ?_
                                refine lv_iload hx hb dX7_where_242 (lv_at hl 2 rfl) ?_
                                refine z_iald hx hb hK hP 2 0 rfl rfl (e := i) rfl (by omega) (by omega) dX7_where_244 ?_
                                refine lv_icmp_le (tgt := 252) hx hb dX7_where_245 (by decide) (fun c_153 => ?_) (fun c_153 => ?_)
                                · have c_153 : (Y (nxt n i)).toInt ≤ (Y i).toInt := zc_le rfl rfl c_153
                                  refine lv_iconst (v := 0) hx hb dX7_where_252 (by decide) ?_
                                  refine lv_icmp_ne (tgt := 266) hx hb dX7_where_253 (by decide) (fun c_154 => ?_) (fun c_154 => ?_)
                                  · have c_154 : ¬ 1 = 0 := zc_ne (by decide) (by decide) c_154
                                    refine lv_iinc (v := nI (i + 1)) (lv' := [(4, .int (nI (i + 1))), (6, .int (iI (eCr n X Y i px.toInt py.toInt))), (5, .int (nI (nxt n i))), (3, .int (pI (par2 (eTg n X Y px.toInt py.toInt) i))), (0, .ref r), (1, .int px), (2, .int py)]) hx hb dX7_where_266 hl (k := 2) rfl (nI_add i 1) (by decide) rfl (fun ls hl => ?_)
                                    refine lv_goto (tgt := 5) hx hb dX7_where_269 (by decide) ?_
                                    have hl9 := lv_sub hl [0, 3, 4, 5, 6] rfl
                                    have e9_3 : pI (par2 (eTg n X Y px.toInt py.toInt) (i + 1)) = (pI (par2 (eTg n X Y px.toInt py.toInt) i) : Int32) := by first | exact zp_iff (par2_n (sk_tg (by omega)).1) | exact zp_iff (par2_n (by unfold eTg; omega)) | exact zp_t ((par2_y (by unfold eTg; omega)).mpr (by assumption)) | exact zp_f (fun q => (par2_y (by unfold eTg; omega)).mp q (by assumption))
                                    have hl9 : lv_has ls 7 [(4, .int (nI (i + 1))), (3, .int (pI (par2 (eTg n X Y px.toInt py.toInt) (i + 1)))), (0, .ref r), (1, .int px), (2, .int py)] := by rw [e9_3]; exact hl9
                                    exact ih_5 (i + 1) H locs ls (by omega) (by omega) (by intro k hk; rcases Nat.lt_or_ge k i with h | h; exact hno k h; have e9 : k = i := (by omega); subst e9; first | exact (sk_tg (by omega)).2 | (unfold eOn onS; unfold eCr at *; omega)) hP hD hS hl9
                                  · exact absurd c_154 (by decide)
                                · have c_153 : (Y i).toInt < (Y (nxt n i)).toInt := zc_nle rfl rfl c_153
                                  refine lv_iconst (v := 1) hx hb dX7_where_248 (by decide) ?_
                                  refine lv_goto (tgt := 253) hx hb dX7_where_249 (by decide) ?_
                                  refine lv_icmp_ne (tgt := 266) hx hb dX7_where_253 (by decide) (fun c_155 => ?_) (fun c_155 => ?_)
                                  · exact absurd (by decide) c_155
                                  · have c_155 : 1 = 1 := zc_eq (by decide) (by decide) c_155
                                    refine lv_iload_n hx hb dX7_where_256 rfl (lv_at hl 3 rfl) ?_
                                    refine lv_if_ne (tgt := 264) hx hb dX7_where_257 (by decide) (fun c_156 => ?_) (fun c_156 => ?_)
                                    · have c_156 : par2 (eTg n X Y px.toInt py.toInt) i := zp_1 c_156
                                      refine lv_iconst (v := 0) hx hb dX7_where_264 (by decide) ?_
                                      refine lv_istore_n (lv' := [(3, .int 0), (6, .int (iI (eCr n X Y i px.toInt py.toInt))), (5, .int (nI (nxt n i))), (4, .int (nI i)), (0, .ref r), (1, .int px), (2, .int py)]) hx hb dX7_where_265 rfl hl (by decide) rfl (fun ls hl => ?_)
                                      refine lv_iinc (v := nI (i + 1)) (lv' := [(4, .int (nI (i + 1))), (3, .int 0), (6, .int (iI (eCr n X Y i px.toInt py.toInt))), (5, .int (nI (nxt n i))), (0, .ref r), (1, .int px), (2, .int py)]) hx hb dX7_where_266 hl (k := 3) rfl (nI_add i 1) (by decide) rfl (fun ls hl => ?_)
                                      refine lv_goto (tgt := 5) hx hb dX7_where_269 (by decide) ?_
                                      have hl9 := lv_sub hl [0, 1, 4, 5, 6] rfl
                                      have e9_3 : pI (par2 (eTg n X Y px.toInt py.toInt) (i + 1)) = (0 : Int32) := by first | exact zp_iff (par2_n (sk_tg (by omega)).1) | exact zp_iff (par2_n (by unfold eTg; omega)) | exact zp_t ((par2_y (by unfold eTg; omega)).mpr (by assumption)) | exact zp_f (fun q => (par2_y (by unfold eTg; omega)).mp q (by assumption))
                                      have hl9 : lv_has ls 7 [(4, .int (nI (i + 1))), (3, .int (pI (par2 (eTg n X Y px.toInt py.toInt) (i + 1)))), (0, .ref r), (1, .int px), (2, .int py)] := by rw [e9_3]; exact hl9
                                      exact ih_5 (i + 1) H locs ls (by omega) (by omega) (by intro k hk; rcases Nat.lt_or_ge k i with h | h; exact hno k h; have e9 : k = i := (by omega); subst e9; first | exact (sk_tg (by omega)).2 | (unfold eOn onS; unfold eCr at *; omega)) hP hD hS hl9
                                    · have c_156 : ¬ (par2 (eTg n X Y px.toInt py.toInt) i) := zp_0 c_156
                                      refine lv_iconst (v := 1) hx hb dX7_where_260 (by decide) ?_
                                      refine lv_goto (tgt := 265) hx hb dX7_where_261 (by decide) ?_
                                      refine lv_istore_n (lv' := [(3, .int 1), (6, .int (iI (eCr n X Y i px.toInt py.toInt))), (5, .int (nI (nxt n i))), (4, .int (nI i)), (0, .ref r), (1, .int px), (2, .int py)]) hx hb dX7_where_265 rfl hl (by decide) rfl (fun ls hl => ?_)
                                      refine lv_iinc (v := nI (i + 1)) (lv' := [(4, .int (nI (i + 1))), (3, .int 1), (6, .int (iI (eCr n X Y i px.toInt py.toInt))), (5, .int (nI (nxt n i))), (0, .ref r), (1, .int px), (2, .int py)]) hx hb dX7_where_266 hl (k := 3) rfl (nI_add i 1) (by decide) rfl (fun ls hl => ?_)
                                      refine lv_goto (tgt := 5) hx hb dX7_where_269 (by decide) ?_
                                      have hl9 := lv_sub hl [0, 1, 4, 5, 6] rfl
                                      have e9_3 : pI (par2 (eTg n X Y px.toInt py.toInt) (i + 1)) = (1 : Int32) := by first | exact zp_iff (par2_n (sk_tg (by omega)).1) | exact zp_iff (par2_n (by unfold eTg; omega)) | exact zp_t ((par2_y (by unfold eTg; omega)).mpr (by assumption)) | exact zp_f (fun q => (par2_y (by unfold eTg; omega)).mp q (by assumption))
                                      have hl9 : lv_has ls 7 [(4, .int (nI (i + 1))), (3, .int (pI (par2 (eTg n X Y px.toInt py.toInt) (i + 1)))), (0, .ref r), (1, .int px), (2, .int py)] := by rw [e9_3]; exact hl9
                                      exact ih_5 (i + 1) H locs ls (by omega) (by omega) (by intro k hk; rcases Nat.lt_or_ge k i with h | h; exact hno k h; have e9 : k = i := (by omega); subst e9; first | exact (sk_tg (by omega)).2 | (unfold eOn onS; unfold eCr at *; omega)) hP hD hS hl9
                        · have c_144 : py.toInt < (Y i).toInt := zc_nle rfl rfl c_144
                          refine lv_iconst (v := 1) hx hb dX7_where_197 (by decide) ?_
                          refine lv_goto (tgt := 202) hx hb dX7_where_198 (by decide) ?_
                          refine lv_aload_n hx hb dX7_where_202 rfl (lv_at hl 4 rfl) ?_
                          refine va_get (D := (dC, dI)) (ci := 6) (v := .ref ry) (C := RX7) (T := TX7) (N := 4) hx hb hts inX7 hown hK hP 0 rfl rfl 1 (by decide) (hts _ mw_168) (fun _ h9 => h9) rfl dX7_where_203 ?_
                          refine lv_iload hx hb dX7_where_206 (lv_at hl 1 rfl) ?_
                          refine z_iald hx hb hK hP 2 0 rfl rfl (e := nxt n i) rfl (by omega) (by omega) dX7_where_208 ?_
                          refine lv_iload_n hx hb dX7_where_209 rfl (lv_at hl 6 rfl) ?_
                          refine lv_icmp_le (tgt := 217) hx hb dX7_where_210 (by decide) (fun c_157 => ?_) (fun c_157 => ?_)
                          · have c_157 : (Y (nxt n i)).toInt ≤ py.toInt := zc_le rfl rfl c_157
                            refine lv_iconst (v := 0) hx hb dX7_where_217 (by decide) ?_
                            refine lv_icmp_eq (tgt := 266) hx hb dX7_where_218 (by decide) (fun c_158 => ?_) (fun c_158 => ?_)
                            · exact absurd c_158 (by decide)
                            · have c_158 : ¬ 1 = 0 := zc_ne (by decide) (by decide) c_158
                              refine lv_iload hx hb dX7_where_221 (lv_at hl 0 rfl) ?_
                              refine lv_if_le (tgt := 230) hx hb dX7_where_223 (by decide) (fun c_159 => ?_) (fun c_159 => ?_)
                              · have c_159 : (eCr n X Y i px.toInt py.toInt) ≤ 0 := zc_le (iI_toInt (by omega)) (by decide) c_159
                                refine lv_iconst (v := 0) hx hb dX7_where_230 (by decide) ?_
                                refine lv_aload_n hx hb dX7_where_231 rfl (lv_at hl 4 rfl) ?_
                                refine va_get (D := (dC, dI)) (ci := 6) (v := .ref ry) (C := RX7) (T := TX7) (N := 4) hx hb hts inX7 hown hK hP 0 rfl rfl 1 (by decide) (hts _ mw_168) (fun _ h9 => h9) rfl dX7_where_232 ?_
                                refine lv_iload hx hb dX7_where_235 (lv_at hl 1 rfl) ?_
                                refine z_iald hx hb hK hP 2 0 rfl rfl (e := nxt n i) rfl (by omega) (by omega) dX7_where_237 ?_
                                refine lv_aload_n hx hb dX7_where_238 rfl (lv_at hl 4 rfl) ?_
                                refine va_get (D := (dC, dI)) (ci := 6) (v := .ref ry) (C := RX7) (T := TX7) (N := 4) hx hb hts inX7 hown hK hP 0 rfl rfl 1 (by decide) (hts _ mw_168) (fun _ h9 => h9) rfl dX7_where_239 ?_
                                refine lv_iload hx hb dX7_where_242 (lv_at hl 2 rfl) ?_
                                refine z_iald hx hb hK hP 2 0 rfl rfl (e := i) rfl (by omega) (by omega) dX7_where_244 ?_
                                refine lv_icmp_le (tgt := 252) hx hb dX7_where_245 (by decide) (fun c_160 => ?_) (fun c_160 => ?_)
                                · have c_160 : (Y (nxt n i)).toInt ≤ (Y i).toInt := zc_le rfl rfl c_160
                                  refine lv_iconst (v := 0) hx hb dX7_where_252 (by decide) ?_
                                  refine lv_icmp_ne (tgt := 266) hx hb dX7_where_253 (by decide) (fun c_161 => ?_) (fun c_161 => ?_)
                                  · exact absurd (by decide) c_161
                                  · have c_161 : 0 = 0 := zc_eq (by decide) (by decide) c_161
                                    refine lv_iload_n hx hb dX7_where_256 rfl (lv_at hl 3 rfl) ?_
                                    refine lv_if_ne (tgt := 264) hx hb dX7_where_257 (by decide) (fun c_162 => ?_) (fun c_162 => ?_)
                                    · have c_162 : par2 (eTg n X Y px.toInt py.toInt) i := zp_1 c_162
                                      refine lv_iconst (v := 0) hx hb dX7_where_264 (by decide) ?_
                                      refine lv_istore_n (lv' := [(3, .int 0), (6, .int (iI (eCr n X Y i px.toInt py.toInt))), (5, .int (nI (nxt n i))), (4, .int (nI i)), (0, .ref r), (1, .int px), (2, .int py)]) hx hb dX7_where_265 rfl hl (by decide) rfl (fun ls hl => ?_)
                                      refine lv_iinc (v := nI (i + 1)) (lv' := [(4, .int (nI (i + 1))), (3, .int 0), (6, .int (iI (eCr n X Y i px.toInt py.toInt))), (5, .int (nI (nxt n i))), (0, .ref r), (1, .int px), (2, .int py)]) hx hb dX7_where_266 hl (k := 3) rfl (nI_add i 1) (by decide) rfl (fun ls hl => ?_)
                                      refine lv_goto (tgt := 5) hx hb dX7_where_269 (by decide) ?_
                                      have hl9 := lv_sub hl [0, 1, 4, 5, 6] rfl
                                      have e9_3 : pI (par2 (eTg n X Y px.toInt py.toInt) (i + 1)) = (0 : Int32) := by first | exact zp_iff (par2_n (sk_tg (by omega)).1) | exact zp_iff (par2_n (by unfold eTg; omega)) | exact zp_t ((par2_y (by unfold eTg; omega)).mpr (by assumption)) | exact zp_f (fun q => (par2_y (by unfold eTg; omega)).mp q (by assumption))
                                      have hl9 : lv_has ls 7 [(4, .int (nI (i + 1))), (3, .int (pI (par2 (eTg n X Y px.toInt py.toInt) (i + 1)))), (0, .ref r), (1, .int px), (2, .int py)] := by rw [e9_3]; exact hl9
                                      exact ih_5 (i + 1) H locs ls (by omega) (by omega) (by intro k hk; rcases Nat.lt_or_ge k i with h | h; exact hno k h; have e9 : k = i := (by omega); subst e9; first | exact (sk_tg (by omega)).2 | (unfold eOn onS; unfold eCr at *; omega)) hP hD hS hl9
                                    · have c_162 : ¬ (par2 (eTg n X Y px.toInt py.toInt) i) := zp_0 c_162
                                      refine lv_iconst (v := 1) hx hb dX7_where_260 (by decide) ?_
                                      refine lv_goto (tgt := 265) hx hb dX7_where_261 (by decide) ?_
                                      refine lv_istore_n (lv' := [(3, .int 1), (6, .int (iI (eCr n X Y i px.toInt py.toInt))), (5, .int (nI (nxt n i))), (4, .int (nI i)), (0, .ref r), (1, .int px), (2, .int py)]) hx hb dX7_where_265 rfl hl (by decide) rfl (fun ls hl => ?_)
                                      refine lv_iinc (v := nI (i + 1)) (lv' := [(4, .int (nI (i + 1))), (3, .int 1), (6, .int (iI (eCr n X Y i px.toInt py.toInt))), (5, .int (nI (nxt n i))), (0, .ref r), (1, .int px), (2, .int py)]) hx hb dX7_where_266 hl (k := 3) rfl (nI_add i 1) (by decide) rfl (fun ls hl => ?_)
                                      refine lv_goto (tgt := 5) hx hb dX7_where_269 (by decide) ?_
                                      have hl9 := lv_sub hl [0, 1, 4, 5, 6] rfl
                                      have e9_3 : pI (par2 (eTg n X Y px.toInt py.toInt) (i + 1)) = (1 : Int32) := by first | exact zp_iff (par2_n (sk_tg (by omega)).1) | exact zp_iff (par2_n (by unfold eTg; omega)) | exact zp_t ((par2_y (by unfold eTg; omega)).mpr (by assumption)) | exact zp_f (fun q => (par2_y (by unfold eTg; omega)).mp q (by assumption))
                                      have hl9 : lv_has ls 7 [(4, .int (nI (i + 1))), (3, .int (pI (par2 (eTg n X Y px.toInt py.toInt) (i + 1)))), (0, .ref r), (1, .int px), (2, .int py)] := by rw [e9_3]; exact hl9
                                      exact ih_5 (i + 1) H locs ls (by omega) (by omega) (by intro k hk; rcases Nat.lt_or_ge k i with h | h; exact hno k h; have e9 : k = i := (by omega); subst e9; first | exact (sk_tg (by omega)).2 | (unfold eOn onS; unfold eCr at *; omega)) hP hD hS hl9
                                · have c_160 : (Y i).toInt < (Y (nxt n i)).toInt := zc_nle rfl rfl c_160
                                  refine lv_iconst (v := 1) hx hb dX7_where_248 (by decide) ?_
                                  refine lv_goto (tgt := 253) hx hb dX7_where_249 (by decide) ?_
                                  refine lv_icmp_ne (tgt := 266) hx hb dX7_where_253 (by decide) (fun c_163 => ?_) (fun c_163 => ?_)
                                  · have c_163 : ¬ 0 = 1 := zc_ne (by decide) (by decide) c_163
                                    refine lv_iinc (v := nI (i + 1)) (lv' := [(4, .int (nI (i + 1))), (6, .int (iI (eCr n X Y i px.toInt py.toInt))), (5, .int (nI (nxt n i))), (3, .int (pI (par2 (eTg n X Y px.toInt py.toInt) i))), (0, .ref r), (1, .int px), (2, .int py)]) hx hb dX7_where_266 hl (k := 2) rfl (nI_add i 1) (by decide) rfl (fun ls hl => ?_)
                                    refine lv_goto (tgt := 5) hx hb dX7_where_269 (by decide) ?_
                                    have hl9 := lv_sub hl [0, 3, 4, 5, 6] rfl
                                    have e9_3 : pI (par2 (eTg n X Y px.toInt py.toInt) (i + 1)) = (pI (par2 (eTg n X Y px.toInt py.toInt) i) : Int32) := by first | exact zp_iff (par2_n (sk_tg (by omega)).1) | exact zp_iff (par2_n (by unfold eTg; omega)) | exact zp_t ((par2_y (by unfold eTg; omega)).mpr (by assumption)) | exact zp_f (fun q => (par2_y (by unfold eTg; omega)).mp q (by assumption))
                                    have hl9 : lv_has ls 7 [(4, .int (nI (i + 1))), (3, .int (pI (par2 (eTg n X Y px.toInt py.toInt) (i + 1)))), (0, .ref r), (1, .int px), (2, .int py)] := by rw [e9_3]; exact hl9
                                    exact ih_5 (i + 1) H locs ls (by omega) (by omega) (by intro k hk; rcases Nat.lt_or_ge k i with h | h; exact hno k h; have e9 : k = i := (by omega); subst e9; first | exact (sk_tg (by omega)).2 | (unfold eOn onS; unfold eCr at *; omega)) hP hD hS hl9
                                  · exact absurd c_163 (by decide)
                              · have c_159 : 0 < (eCr n X Y i px.toInt py.toInt) := zc_nle (iI_toInt (by omega)) (by decide) c_159
                                refine lv_iconst (v := 1) hx hb dX7_where_226 (by decide) ?_
                                refine lv_goto (tgt := 231) hx hb dX7_where_227 (by decide) ?_
                                refine lv_aload_n hx hb dX7_where_231 rfl (lv_at hl 4 rfl) ?_
                                refine va_get (D := (dC, dI)) (ci := 6) (v := .ref ry) (C := RX7) (T := TX7) (N := 4) hx hb hts inX7 hown hK hP 0 rfl rfl 1 (by decide) (hts _ mw_168) (fun _ h9 => h9) rfl dX7_where_232 ?_
                                refine lv_iload hx hb dX7_where_235 (lv_at hl 1 rfl) ?_
                                refine z_iald hx hb hK hP 2 0 rfl rfl (e := nxt n i) rfl (by omega) (by omega) dX7_where_237 ?_
                                refine lv_aload_n hx hb dX7_where_238 rfl (lv_at hl 4 rfl) ?_
                                refine va_get (D := (dC, dI)) (ci := 6) (v := .ref ry) (C := RX7) (T := TX7) (N := 4) hx hb hts inX7 hown hK hP 0 rfl rfl 1 (by decide) (hts _ mw_168) (fun _ h9 => h9) rfl dX7_where_239 ?_
                                refine lv_iload hx hb dX7_where_242 (lv_at hl 2 rfl) ?_
                                refine z_iald hx hb hK hP 2 0 rfl rfl (e := i) rfl (by omega) (by omega) dX7_where_244 ?_
                                refine lv_icmp_le (tgt := 252) hx hb dX7_where_245 (by decide) (fun c_164 => ?_) (fun c_164 => ?_)
                                · have c_164 : (Y (nxt n i)).toInt ≤ (Y i).toInt := zc_le rfl rfl c_164
                                  refine lv_iconst (v := 0) hx hb dX7_where_252 (by decide) ?_
                                  refine lv_icmp_ne (tgt := 266) hx hb dX7_where_253 (by decide) (fun c_165 => ?_) (fun c_165 => ?_)
                                  · have c_165 : ¬ 1 = 0 := zc_ne (by decide) (by decide) c_165
                                    refine lv_iinc (v := nI (i + 1)) (lv' := [(4, .int (nI (i + 1))), (6, .int (iI (eCr n X Y i px.toInt py.toInt))), (5, .int (nI (nxt n i))), (3, .int (pI (par2 (eTg n X Y px.toInt py.toInt) i))), (0, .ref r), (1, .int px), (2, .int py)]) hx hb dX7_where_266 hl (k := 2) rfl (nI_add i 1) (by decide) rfl (fun ls hl => ?_)
                                    refine lv_goto (tgt := 5) hx hb dX7_where_269 (by decide) ?_
                                    have hl9 := lv_sub hl [0, 3, 4, 5, 6] rfl
                                    have e9_3 : pI (par2 (eTg n X Y px.toInt py.toInt) (i + 1)) = (pI (par2 (eTg n X Y px.toInt py.toInt) i) : Int32) := by first | exact zp_iff (par2_n (sk_tg (by omega)).1) | exact zp_iff (par2_n (by unfold eTg; omega)) | exact zp_t ((par2_y (by unfold eTg; omega)).mpr (by assumption)) | exact zp_f (fun q => (par2_y (by unfold eTg; omega)).mp q (by assumption))
                                    have hl9 : lv_has ls 7 [(4, .int (nI (i + 1))), (3, .int (pI (par2 (eTg n X Y px.toInt py.toInt) (i + 1)))), (0, .ref r), (1, .int px), (2, .int py)] := by rw [e9_3]; exact hl9
                                    exact ih_5 (i + 1) H locs ls (by omega) (by omega) (by intro k hk; rcases Nat.lt_or_ge k i with h | h; exact hno k h; have e9 : k = i := (by omega); subst e9; first | exact (sk_tg (by omega)).2 | (unfold eOn onS; unfold eCr at *; omega)) hP hD hS hl9
                                  · exact absurd c_165 (by decide)
                                · have c_164 : (Y i).toInt < (Y (nxt n i)).toInt := zc_nle rfl rfl c_164
                                  refine lv_iconst (v := 1) hx hb dX7_where_248 (by decide) ?_
                                  refine lv_goto (tgt := 253) hx hb dX7_where_249 (by decide) ?_
                                  refine lv_icmp_ne (tgt := 266) hx hb dX7_where_253 (by decide) (fun c_166 => ?_) (fun c_166 => ?_)
                                  · exact absurd (by decide) c_166
                                  · have c_166 : 1 = 1 := zc_eq (by decide) (by decide) c_166
                                    refine lv_iload_n hx hb dX7_where_256 rfl (lv_at hl 3 rfl) ?_
                                    refine lv_if_ne (tgt := 264) hx hb dX7_where_257 (by decide) (fun c_167 => ?_) (fun c_167 => ?_)
                                    · have c_167 : par2 (eTg n X Y px.toInt py.toInt) i := zp_1 c_167
                                      refine lv_iconst (v := 0) hx hb dX7_where_264 (by decide) ?_
                                      refine lv_istore_n (lv' := [(3, .int 0), (6, .int (iI (eCr n X Y i px.toInt py.toInt))), (5, .int (nI (nxt n i))), (4, .int (nI i)), (0, .ref r), (1, .int px), (2, .int py)]) hx hb dX7_where_265 rfl hl (by decide) rfl (fun ls hl => ?_)
                                      refine lv_iinc (v := nI (i + 1)) (lv' := [(4, .int (nI (i + 1))), (3, .int 0), (6, .int (iI (eCr n X Y i px.toInt py.toInt))), (5, .int (nI (nxt n i))), (0, .ref r), (1, .int px), (2, .int py)]) hx hb dX7_where_266 hl (k := 3) rfl (nI_add i 1) (by decide) rfl (fun ls hl => ?_)
                                      refine lv_goto (tgt := 5) hx hb dX7_where_269 (by decide) ?_
                                      have hl9 := lv_sub hl [0, 1, 4, 5, 6] rfl
                                      have e9_3 : pI (par2 (eTg n X Y px.toInt py.toInt) (i + 1)) = (0 : Int32) := by first | exact zp_iff (par2_n (sk_tg (by omega)).1) | exact zp_iff (par2_n (by unfold eTg; omega)) | exact zp_t ((par2_y (by unfold eTg; omega)).mpr (by assumption)) | exact zp_f (fun q => (par2_y (by unfold eTg; omega)).mp q (by assumption))
                                      have hl9 : lv_has ls 7 [(4, .int (nI (i + 1))), (3, .int (pI (par2 (eTg n X Y px.toInt py.toInt) (i + 1)))), (0, .ref r), (1, .int px), (2, .int py)] := by rw [e9_3]; exact hl9
                                      exact ih_5 (i + 1) H locs ls (by omega) (by omega) (by intro k hk; rcases Nat.lt_or_ge k i with h | h; exact hno k h; have e9 : k = i := (by omega); subst e9; first | exact (sk_tg (by omega)).2 | (unfold eOn onS; unfold eCr at *; omega)) hP hD hS hl9
                                    · have c_167 : ¬ (par2 (eTg n X Y px.toInt py.toInt) i) := zp_0 c_167
                                      refine lv_iconst (v := 1) hx hb dX7_where_260 (by decide) ?_
                                      refine lv_goto (tgt := 265) hx hb dX7_where_261 (by decide) ?_
                                      refine lv_istore_n (lv' := [(3, .int 1), (6, .int (iI (eCr n X Y i px.toInt py.toInt))), (5, .int (nI (nxt n i))), (4, .int (nI i)), (0, .ref r), (1, .int px), (2, .int py)]) hx hb dX7_where_265 rfl hl (by decide) rfl (fun ls hl => ?_)
                                      refine lv_iinc (v := nI (i + 1)) (lv' := [(4, .int (nI (i + 1))), (3, .int 1), (6, .int (iI (eCr n X Y i px.toInt py.toInt))), (5, .int (nI (nxt n i))), (0, .ref r), (1, .int px), (2, .int py)]) hx hb dX7_where_266 hl (k := 3) rfl (nI_add i 1) (by decide) rfl (fun ls hl => ?_)
                                      refine lv_goto (tgt := 5) hx hb dX7_where_269 (by decide) ?_
                                      have hl9 := lv_sub hl [0, 1, 4, 5, 6] rfl
                                      have e9_3 : pI (par2 (eTg n X Y px.toInt py.toInt) (i + 1)) = (1 : Int32) := by first | exact zp_iff (par2_n (sk_tg (by omega)).1) | exact zp_iff (par2_n (by unfold eTg; omega)) | exact zp_t ((par2_y (by unfold eTg; omega)).mpr (by assumption)) | exact zp_f (fun q => (par2_y (by unfold eTg; omega)).mp q (by assumption))
                                      have hl9 : lv_has ls 7 [(4, .int (nI (i + 1))), (3, .int (pI (par2 (eTg n X Y px.toInt py.toInt) (i + 1)))), (0, .ref r), (1, .int px), (2, .int py)] := by rw [e9_3]; exact hl9
                                      exact ih_5 (i + 1) H locs ls (by omega) (by omega) (by intro k hk; rcases Nat.lt_or_ge k i with h | h; exact hno k h; have e9 : k = i := (by omega); subst e9; first | exact (sk_tg (by omega)).2 | (unfold eOn onS; unfold eCr at *; omega)) hP hD hS hl9
                          · have c_157 : py.toInt < (Y (nxt n i)).toInt := zc_nle rfl rfl c_157
                            refine lv_iconst (v := 1) hx hb dX7_where_213 (by decide) ?_
                            refine lv_goto (tgt := 218) hx hb dX7_where_214 (by decide) ?_
                            refine lv_icmp_eq (tgt := 266) hx hb dX7_where_218 (by decide) (fun c_168 => ?_) (fun c_168 => ?_)
                            · have c_168 : 1 = 1 := zc_eq (by decide) (by decide) c_168
                              refine lv_iinc (v := nI (i + 1)) (lv' := [(4, .int (nI (i + 1))), (6, .int (iI (eCr n X Y i px.toInt py.toInt))), (5, .int (nI (nxt n i))), (3, .int (pI (par2 (eTg n X Y px.toInt py.toInt) i))), (0, .ref r), (1, .int px), (2, .int py)]) hx hb dX7_where_266 hl (k := 2) rfl (nI_add i 1) (by decide) rfl (fun ls hl => ?_)
                              refine lv_goto (tgt := 5) hx hb dX7_where_269 (by decide) ?_
                              have hl9 := lv_sub hl [0, 3, 4, 5, 6] rfl
                              have e9_3 : pI (par2 (eTg n X Y px.toInt py.toInt) (i + 1)) = (pI (par2 (eTg n X Y px.toInt py.toInt) i) : Int32) := by first | exact zp_iff (par2_n (sk_tg (by omega)).1) | exact zp_iff (par2_n (by unfold eTg; omega)) | exact zp_t ((par2_y (by unfold eTg; omega)).mpr (by assumption)) | exact zp_f (fun q => (par2_y (by unfold eTg; omega)).mp q (by assumption))
                              have hl9 : lv_has ls 7 [(4, .int (nI (i + 1))), (3, .int (pI (par2 (eTg n X Y px.toInt py.toInt) (i + 1)))), (0, .ref r), (1, .int px), (2, .int py)] := by rw [e9_3]; exact hl9
                              exact ih_5 (i + 1) H locs ls (by omega) (by omega) (by intro k hk; rcases Nat.lt_or_ge k i with h | h; exact hno k h; have e9 : k = i := (by omega); subst e9; first | exact (sk_tg (by omega)).2 | (unfold eOn onS; unfold eCr at *; omega)) hP hD hS hl9
                            · exact absurd (by decide) c_168
                      · have c_143 : (X (nxt n i)).toInt ≤ px.toInt := zc_nlt rfl rfl c_143
                        refine lv_iconst (v := 2) hx hb dX7_where_184 (by decide) ?_
                        have hP9 := hP.sub (ws' := [(r, .inr (6, [.ref rx, .ref ry, .int (nI n), .int rg])), (rx, .inl (cI, cap, .inl X)), (ry, .inl (cI, cap, .inl Y))]) [0, 1, 2] rfl
                        have hD9 := hD.sub (ws' := [(r, .inr (6, [.ref rx, .ref ry, .int (nI n), .int rg])), (rx, .inl (cI, cap, .inl X)), (ry, .inl (cI, cap, .inl Y))]) [0, 1, 2] (by decide) rfl
                        rw [hQ9]
                        exact W.iret (v := 2) hx hb hr (fun t ht hW => ⟨⟨congrArg (fun z => Outcome.returned (some (Value.int z))) (show (2 : Int32) = whr n X Y px.toInt py.toInt from (whr_2 ⟨i, by omega, by unfold eOn onS; unfold eCr at *; omega⟩).symm), by rw [ht]; exact hP9, hD9⟩, hS.F ht⟩) hS.2.2 dX7_where_185
                · have c_115 : (X i).toInt < px.toInt := zc_nle rfl rfl c_115
                  refine lv_aload_n hx hb dX7_where_90 rfl (lv_at hl 3 rfl) ?_
                  refine va_get (D := (dC, dI)) (ci := 6) (v := .ref rx) (C := RX7) (T := TX7) (N := 4) hx hb hts inX7 hown hK hP 0 rfl rfl 0 (by decide) (hts _ mw_161) (fun _ h9 => h9) rfl dX7_where_91 ?_
                  refine lv_iload hx hb dX7_where_94 (lv_at hl 0 rfl) ?_
                  refine z_iald hx hb hK hP 1 0 rfl rfl (e := nxt n i) rfl (by omega) (by omega) dX7_where_96 ?_
                  refine lv_iload_n hx hb dX7_where_97 rfl (lv_at hl 4 rfl) ?_
                  refine lv_icmp_ge (tgt := 104) hx hb dX7_where_98 (by decide) (fun c_169 => ?_) (fun c_169 => ?_)
                  · have c_169 : px.toInt ≤ (X (nxt n i)).toInt := zc_le rfl rfl c_169
                    refine lv_aload_n hx hb dX7_where_104 rfl (lv_at hl 3 rfl) ?_
                    refine va_get (D := (dC, dI)) (ci := 6) (v := .ref rx) (C := RX7) (T := TX7) (N := 4) hx hb hts inX7 hown hK hP 0 rfl rfl 0 (by decide) (hts _ mw_161) (fun _ h9 => h9) rfl dX7_where_105 ?_
                    refine lv_iload hx hb dX7_where_108 (lv_at hl 0 rfl) ?_
                    refine z_iald hx hb hK hP 1 0 rfl rfl (e := nxt n i) rfl (by omega) (by omega) dX7_where_110 ?_
                    refine lv_aload_n hx hb dX7_where_111 rfl (lv_at hl 3 rfl) ?_
                    refine va_get (D := (dC, dI)) (ci := 6) (v := .ref rx) (C := RX7) (T := TX7) (N := 4) hx hb hts inX7 hown hK hP 0 rfl rfl 0 (by decide) (hts _ mw_161) (fun _ h9 => h9) rfl dX7_where_112 ?_
                    refine lv_iload hx hb dX7_where_115 (lv_at hl 1 rfl) ?_
                    refine z_iald hx hb hK hP 1 0 rfl rfl (e := i) rfl (by omega) (by omega) dX7_where_117 ?_
                    refine lv_isub hx hb dX7_where_118 ?_
                    refine lv_iload_n hx hb dX7_where_119 rfl (lv_at hl 5 rfl) ?_
                    refine lv_aload_n hx hb dX7_where_120 rfl (lv_at hl 3 rfl) ?_
                    refine va_get (D := (dC, dI)) (ci := 6) (v := .ref ry) (C := RX7) (T := TX7) (N := 4) hx hb hts inX7 hown hK hP 0 rfl rfl 1 (by decide) (hts _ mw_168) (fun _ h9 => h9) rfl dX7_where_121 ?_
                    refine lv_iload hx hb dX7_where_124 (lv_at hl 1 rfl) ?_
                    refine z_iald hx hb hK hP 2 0 rfl rfl (e := i) rfl (by omega) (by omega) dX7_where_126 ?_
                    refine lv_isub hx hb dX7_where_127 ?_
                    refine lv_imul hx hb dX7_where_128 ?_
                    refine lv_aload_n hx hb dX7_where_129 rfl (lv_at hl 3 rfl) ?_
                    refine va_get (D := (dC, dI)) (ci := 6) (v := .ref ry) (C := RX7) (T := TX7) (N := 4) hx hb hts inX7 hown hK hP 0 rfl rfl 1 (by decide) (hts _ mw_168) (fun _ h9 => h9) rfl dX7_where_130 ?_
                    refine lv_iload hx hb dX7_where_133 (lv_at hl 0 rfl) ?_
                    refine z_iald hx hb hK hP 2 0 rfl rfl (e := nxt n i) rfl (by omega) (by omega) dX7_where_135 ?_
                    refine lv_aload_n hx hb dX7_where_136 rfl (lv_at hl 3 rfl) ?_
                    refine va_get (D := (dC, dI)) (ci := 6) (v := .ref ry) (C := RX7) (T := TX7) (N := 4) hx hb hts inX7 hown hK hP 0 rfl rfl 1 (by decide) (hts _ mw_168) (fun _ h9 => h9) rfl dX7_where_137 ?_
                    refine lv_iload hx hb dX7_where_140 (lv_at hl 1 rfl) ?_
                    refine z_iald hx hb hK hP 2 0 rfl rfl (e := i) rfl (by omega) (by omega) dX7_where_142 ?_
                    refine lv_isub hx hb dX7_where_143 ?_
                    refine lv_iload_n hx hb dX7_where_144 rfl (lv_at hl 4 rfl) ?_
                    refine lv_aload_n hx hb dX7_where_145 rfl (lv_at hl 3 rfl) ?_
                    refine va_get (D := (dC, dI)) (ci := 6) (v := .ref rx) (C := RX7) (T := TX7) (N := 4) hx hb hts inX7 hown hK hP 0 rfl rfl 0 (by decide) (hts _ mw_161) (fun _ h9 => h9) rfl dX7_where_146 ?_
                    refine lv_iload hx hb dX7_where_149 (lv_at hl 1 rfl) ?_
                    refine z_iald hx hb hK hP 1 0 rfl rfl (e := i) rfl (by omega) (by omega) dX7_where_151 ?_
                    refine lv_isub hx hb dX7_where_152 ?_
                    refine lv_imul hx hb dX7_where_153 ?_
                    refine lv_isub hx hb dX7_where_154 ?_
                    refine zz_i (v := iI (eCr n X Y i px.toInt py.toInt)) (crI (hp i (by omega)).1 (hp i (by omega)).2 (hp _ hnx).1 (hp _ hnx).2 hpx hpy) ?_
                    have hB1 := crBp (hp i (by omega)).1 (hp i (by omega)).2 (hp _ hnx).1 (hp _ hnx).2 hpx hpy
                    have hB1 : -2000000 ≤ eCr n X Y i px.toInt py.toInt ∧ eCr n X Y i px.toInt py.toInt ≤ 2000000 := hB1
                    refine lv_istore (lv' := [(6, .int (iI (eCr n X Y i px.toInt py.toInt))), (5, .int (nI (nxt n i))), (4, .int (nI i)), (3, .int (pI (par2 (eTg n X Y px.toInt py.toInt) i))), (0, .ref r), (1, .int px), (2, .int py)]) hx hb dX7_where_155 hl (by decide) rfl (fun ls hl => ?_)
                    refine lv_iload hx hb dX7_where_157 (lv_at hl 0 rfl) ?_
                    refine lv_if_ne (tgt := 186) hx hb dX7_where_159 (by decide) (fun c_170 => ?_) (fun c_170 => ?_)
                    · have c_170 : ¬ (eCr n X Y i px.toInt py.toInt) = 0 := zc_ne (iI_toInt (by omega)) (by decide) c_170
                      refine lv_aload_n hx hb dX7_where_186 rfl (lv_at hl 4 rfl) ?_
                      refine va_get (D := (dC, dI)) (ci := 6) (v := .ref ry) (C := RX7) (T := TX7) (N := 4) hx hb hts inX7 hown hK hP 0 rfl rfl 1 (by decide) (hts _ mw_168) (fun _ h9 => h9) rfl dX7_where_187 ?_
                      refine lv_iload hx hb dX7_where_190 (lv_at hl 2 rfl) ?_
                      refine z_iald hx hb hK hP 2 0 rfl rfl (e := i) rfl (by omega) (by omega) dX7_where_192 ?_
                      refine lv_iload_n hx hb dX7_where_193 rfl (lv_at hl 6 rfl) ?_
                      refine lv_icmp_le (tgt := 201) hx hb dX7_where_194 (by decide) (fun c_171 => ?_) (fun c_171 => ?_)
                      · have c_171 : (Y i).toInt ≤ py.toInt := zc_le rfl rfl c_171
                        refine lv_iconst (v := 0) hx hb dX7_where_201 (by decide) ?_
                        refine lv_aload_n hx hb dX7_where_202 rfl (lv_at hl 4 rfl) ?_
                        refine va_get (D := (dC, dI)) (ci := 6) (v := .ref ry) (C := RX7) (T := TX7) (N := 4) hx hb hts inX7 hown hK hP 0 rfl rfl 1 (by decide) (hts _ mw_168) (fun _ h9 => h9) rfl dX7_where_203 ?_
                        refine lv_iload hx hb dX7_where_206 (lv_at hl 1 rfl) ?_
                        refine z_iald hx hb hK hP 2 0 rfl rfl (e := nxt n i) rfl (by omega) (by omega) dX7_where_208 ?_
                        refine lv_iload_n hx hb dX7_where_209 rfl (lv_at hl 6 rfl) ?_
                        refine lv_icmp_le (tgt := 217) hx hb dX7_where_210 (by decide) (fun c_172 => ?_) (fun c_172 => ?_)
                        · have c_172 : (Y (nxt n i)).toInt ≤ py.toInt := zc_le rfl rfl c_172
                          refine lv_iconst (v := 0) hx hb dX7_where_217 (by decide) ?_
                          refine lv_icmp_eq (tgt := 266) hx hb dX7_where_218 (by decide) (fun c_173 => ?_) (fun c_173 => ?_)
                          · have c_173 : 0 = 0 := zc_eq (by decide) (by decide) c_173
                            refine lv_iinc (v := nI (i + 1)) (lv' := [(4, .int (nI (i + 1))), (6, .int (iI (eCr n X Y i px.toInt py.toInt))), (5, .int (nI (nxt n i))), (3, .int (pI (par2 (eTg n X Y px.toInt py.toInt) i))), (0, .ref r), (1, .int px), (2, .int py)]) hx hb dX7_where_266 hl (k := 2) rfl (nI_add i 1) (by decide) rfl (fun ls hl => ?_)
                            refine lv_goto (tgt := 5) hx hb dX7_where_269 (by decide) ?_
                            have hl9 := lv_sub hl [0, 3, 4, 5, 6] rfl
                            have e9_3 : pI (par2 (eTg n X Y px.toInt py.toInt) (i + 1)) = (pI (par2 (eTg n X Y px.toInt py.toInt) i) : Int32) := by first | exact zp_iff (par2_n (sk_tg (by omega)).1) | exact zp_iff (par2_n (by unfold eTg; omega)) | exact zp_t ((par2_y (by unfold eTg; omega)).mpr (by assumption)) | exact zp_f (fun q => (par2_y (by unfold eTg; omega)).mp q (by assumption))
                            have hl9 : lv_has ls 7 [(4, .int (nI (i + 1))), (3, .int (pI (par2 (eTg n X Y px.toInt py.toInt) (i + 1)))), (0, .ref r), (1, .int px), (2, .int py)] := by rw [e9_3]; exact hl9
                            exact ih_5 (i + 1) H locs ls (by omega) (by omega) (by intro k hk; rcases Nat.lt_or_ge k i with h | h; exact hno k h; have e9 : k = i := (by omega); subst e9; first | exact (sk_tg (by omega)).2 | (unfold eOn onS; unfold eCr at *; omega)) hP hD hS hl9
                          · exact absurd (by decide) c_173
                        · have c_172 : py.toInt < (Y (nxt n i)).toInt := zc_nle rfl rfl c_172
                          refine lv_iconst (v := 1) hx hb dX7_where_213 (by decide) ?_
                          refine lv_goto (tgt := 218) hx hb dX7_where_214 (by decide) ?_
                          refine lv_icmp_eq (tgt := 266) hx hb dX7_where_218 (by decide) (fun c_174 => ?_) (fun c_174 => ?_)
                          · exact absurd c_174 (by decide)
                          · have c_174 : ¬ 0 = 1 := zc_ne (by decide) (by decide) c_174
                            refine lv_iload hx hb dX7_where_221 (lv_at hl 0 rfl) ?_
                            refine lv_if_le (tgt := 230) hx hb dX7_where_223 (by decide) (fun c_175 => ?_) (fun c_175 => ?_)
                            · have c_175 : (eCr n X Y i px.toInt py.toInt) ≤ 0 := zc_le (iI_toInt (by omega)) (by decide) c_175
                              refine lv_iconst (v := 0) hx hb dX7_where_230 (by decide) ?_
                              refine lv_aload_n hx hb dX7_where_231 rfl (lv_at hl 4 rfl) ?_
                              refine va_get (D := (dC, dI)) (ci := 6) (v := .ref ry) (C := RX7) (T := TX7) (N := 4) hx hb hts inX7 hown hK hP 0 rfl rfl 1 (by decide) (hts _ mw_168) (fun _ h9 => h9) rfl dX7_where_232 ?_
                              refine lv_iload hx hb dX7_where_235 (lv_at hl 1 rfl) ?_
                              refine z_iald hx hb hK hP 2 0 rfl rfl (e := nxt n i) rfl (by omega) (by omega) dX7_where_237 ?_
                              refine lv_aload_n hx hb dX7_where_238 rfl (lv_at hl 4 rfl) ?_
                              refine va_get (D := (dC, dI)) (ci := 6) (v := .ref ry) (C := RX7) (T := TX7) (N := 4) hx hb hts inX7 hown hK hP 0 rfl rfl 1 (by decide) (hts _ mw_168) (fun _ h9 => h9) rfl dX7_where_239 ?_
                              refine lv_iload hx hb dX7_where_242 (lv_at hl 2 rfl) ?_
                              refine z_iald hx hb hK hP 2 0 rfl rfl (e := i) rfl (by omega) (by omega) dX7_where_244 ?_
                              refine lv_icmp_le (tgt := 252) hx hb dX7_where_245 (by decide) (fun c_176 => ?_) (fun c_176 => ?_)
                              · have c_176 : (Y (nxt n i)).toInt ≤ (Y i).toInt := zc_le rfl rfl c_176
                                refine lv_iconst (v := 0) hx hb dX7_where_252 (by decide) ?_
                                refine lv_icmp_ne (tgt := 266) hx hb dX7_where_253 (by decide) (fun c_177 => ?_) (fun c_177 => ?_)
                                · exact absurd (by decide) c_177
                                · have c_177 : 0 = 0 := zc_eq (by decide) (by decide) c_177
                                  refine lv_iload_n hx hb dX7_where_256 rfl (lv_at hl 3 rfl) ?_
                                  refine lv_if_ne (tgt := 264) hx hb dX7_where_257 (by decide) (fun c_178 => ?_) (fun c_178 => ?_)
                                  · have c_178 : par2 (eTg n X Y px.toInt py.toInt) i := zp_1 c_178
                                    refine lv_iconst (v := 0) hx hb dX7_where_264 (by decide) ?_
                                    refine lv_istore_n (lv' := [(3, .int 0), (6, .int (iI (eCr n X Y i px.toInt py.toInt))), (5, .int (nI (nxt n i))), (4, .int (nI i)), (0, .ref r), (1, .int px), (2, .int py)]) hx hb dX7_where_265 rfl hl (by decide) rfl (fun ls hl => ?_)
                                    refine lv_iinc (v := nI (i + 1)) (lv' := [(4, .int (nI (i + 1))), (3, .int 0), (6, .int (iI (eCr n X Y i px.toInt py.toInt))), (5, .int (nI (nxt n i))), (0, .ref r), (1, .int px), (2, .int py)]) hx hb dX7_where_266 hl (k := 3) rfl (nI_add i 1) (by decide) rfl (fun ls hl => ?_)
                                    refine lv_goto (tgt := 5) hx hb dX7_where_269 (by decide) ?_
                                    have hl9 := lv_sub hl [0, 1, 4, 5, 6] rfl
                                    have e9_3 : pI (par2 (eTg n X Y px.toInt py.toInt) (i + 1)) = (0 : Int32) := by first | exact zp_iff (par2_n (sk_tg (by omega)).1) | exact zp_iff (par2_n (by unfold eTg; omega)) | exact zp_t ((par2_y (by unfold eTg; omega)).mpr (by assumption)) | exact zp_f (fun q => (par2_y (by unfold eTg; omega)).mp q (by assumption))
                                    have hl9 : lv_has ls 7 [(4, .int (nI (i + 1))), (3, .int (pI (par2 (eTg n X Y px.toInt py.toInt) (i + 1)))), (0, .ref r), (1, .int px), (2, .int py)] := by rw [e9_3]; exact hl9
                                    exact ih_5 (i + 1) H locs ls (by omega) (by omega) (by intro k hk; rcases Nat.lt_or_ge k i with h | h; exact hno k h; have e9 : k = i := (by omega); subst e9; first | exact (sk_tg (by omega)).2 | (unfold eOn onS; unfold eCr at *; omega)) hP hD hS hl9
                                  · have c_178 : ¬ (par2 (eTg n X Y px.toInt py.toInt) i) := zp_0 c_178
                                    refine lv_iconst (v := 1) hx hb dX7_where_260 (by decide) ?_
                                    refine lv_goto (tgt := 265) hx hb dX7_where_261 (by decide) ?_
                                    refine lv_istore_n (lv' := [(3, .int 1), (6, .int (iI (eCr n X Y i px.toInt py.toInt))), (5, .int (nI (nxt n i))), (4, .int (nI i)), (0, .ref r), (1, .int px), (2, .int py)]) hx hb dX7_where_265 rfl hl (by decide) rfl (fun ls hl => ?_)
                                    refine lv_iinc (v := nI (i + 1)) (lv' := [(4, .int (nI (i + 1))), (3, .int 1), (6, .int (iI (eCr n X Y i px.toInt py.toInt))), (5, .int (nI (nxt n i))), (0, .ref r), (1, .int px), (2, .int py)]) hx hb dX7_where_266 hl (k := 3) rfl (nI_add i 1) (by decide) rfl (fun ls hl => ?_)
                                    refine lv_goto (tgt := 5) hx hb dX7_where_269 (by decide) ?_
                                    have hl9 := lv_sub hl [0, 1, 4, 5, 6] rfl
                                    have e9_3 : pI (par2 (eTg n X Y px.toInt py.toInt) (i + 1)) = (1 : Int32) := by first | exact zp_iff (par2_n (sk_tg (by omega)).1) | exact zp_iff (par2_n (by unfold eTg; omega)) | exact zp_t ((par2_y (by unfold eTg; omega)).mpr (by assumption)) | exact zp_f (fun q => (par2_y (by unfold eTg; omega)).mp q (by assumption))
                                    have hl9 : lv_has ls 7 [(4, .int (nI (i + 1))), (3, .int (pI (par2 (eTg n X Y px.toInt py.toInt) (i + 1)))), (0, .ref r), (1, .int px), (2, .int py)] := by rw [e9_3]; exact hl9
                                    exact ih_5 (i + 1) H locs ls (by omega) (by omega) (by intro k hk; rcases Nat.lt_or_ge k i with h | h; exact hno k h; have e9 : k = i := (by omega); subst e9; first | exact (sk_tg (by omega)).2 | (unfold eOn onS; unfold eCr at *; omega)) hP hD hS hl9
                              · have c_176 : (Y i).toInt < (Y (nxt n i)).toInt := zc_nle rfl rfl c_176
                                refine lv_iconst (v := 1) hx hb dX7_where_248 (by decide) ?_
                                refine lv_goto (tgt := 253) hx hb dX7_where_249 (by decide) ?_
                                refine lv_icmp_ne (tgt := 266) hx hb dX7_where_253 (by decide) (fun c_179 => ?_) (fun c_179 => ?_)
                                · have c_179 : ¬ 0 = 1 := zc_ne (by decide) (by decide) c_179
                                  refine lv_iinc (v := nI (i + 1)) (lv' := [(4, .int (nI (i + 1))), (6, .int (iI (eCr n X Y i px.toInt py.toInt))), (5, .int (nI (nxt n i))), (3, .int (pI (par2 (eTg n X Y px.toInt py.toInt) i))), (0, .ref r), (1, .int px), (2, .int py)]) hx hb dX7_where_266 hl (k := 2) rfl (nI_add i 1) (by decide) rfl (fun ls hl => ?_)
                                  refine lv_goto (tgt := 5) hx hb dX7_where_269 (by decide) ?_
                                  have hl9 := lv_sub hl [0, 3, 4, 5, 6] rfl
                                  have e9_3 : pI (par2 (eTg n X Y px.toInt py.toInt) (i + 1)) = (pI (par2 (eTg n X Y px.toInt py.toInt) i) : Int32) := by first | exact zp_iff (par2_n (sk_tg (by omega)).1) | exact zp_iff (par2_n (by unfold eTg; omega)) | exact zp_t ((par2_y (by unfold eTg; omega)).mpr (by assumption)) | exact zp_f (fun q => (par2_y (by unfold eTg; omega)).mp q (by assumption))
                                  have hl9 : lv_has ls 7 [(4, .int (nI (i + 1))), (3, .int (pI (par2 (eTg n X Y px.toInt py.toInt) (i + 1)))), (0, .ref r), (1, .int px), (2, .int py)] := by rw [e9_3]; exact hl9
                                  exact ih_5 (i + 1) H locs ls (by omega) (by omega) (by intro k hk; rcases Nat.lt_or_ge k i with h | h; exact hno k h; have e9 : k = i := (by omega); subst e9; first | exact (sk_tg (by omega)).2 | (unfold eOn onS; unfold eCr at *; omega)) hP hD hS hl9
                                · exact absurd c_179 (by decide)
                            · have c_175 : 0 < (eCr n X Y i px.toInt py.toInt) := zc_nle (iI_toInt (by omega)) (by decide) c_175
                              refine lv_iconst (v := 1) hx hb dX7_where_226 (by decide) ?_
                              refine lv_goto (tgt := 231) hx hb dX7_where_227 (by decide) ?_
                              refine lv_aload_n hx hb dX7_where_231 rfl (lv_at hl 4 rfl) ?_
                              refine va_get (D := (dC, dI)) (ci := 6) (v := .ref ry) (C := RX7) (T := TX7) (N := 4) hx hb hts inX7 hown hK hP 0 rfl rfl 1 (by decide) (hts _ mw_168) (fun _ h9 => h9) rfl dX7_where_232 ?_
                              refine lv_iload hx hb dX7_where_235 (lv_at hl 1 rfl) ?_
                              refine z_iald hx hb hK hP 2 0 rfl rfl (e := nxt n i) rfl (by omega) (by omega) dX7_where_237 ?_
                              refine lv_aload_n hx hb dX7_where_238 rfl (lv_at hl 4 rfl) ?_
                              refine va_get (D := (dC, dI)) (ci := 6) (v := .ref ry) (C := RX7) (T := TX7) (N := 4) hx hb hts inX7 hown hK hP 0 rfl rfl 1 (by decide) (hts _ mw_168) (fun _ h9 => h9) rfl dX7_where_239 ?_
                              refine lv_iload hx hb dX7_where_242 (lv_at hl 2 rfl) ?_
                              refine z_iald hx hb hK hP 2 0 rfl rfl (e := i) rfl (by omega) (by omega) dX7_where_244 ?_
                              refine lv_icmp_le (tgt := 252) hx hb dX7_where_245 (by decide) (fun c_180 => ?_) (fun c_180 => ?_)
                              · have c_180 : (Y (nxt n i)).toInt ≤ (Y i).toInt := zc_le rfl rfl c_180
                                refine lv_iconst (v := 0) hx hb dX7_where_252 (by decide) ?_
                                refine lv_icmp_ne (tgt := 266) hx hb dX7_where_253 (by decide) (fun c_181 => ?_) (fun c_181 => ?_)
                                · have c_181 : ¬ 1 = 0 := zc_ne (by decide) (by decide) c_181
                                  refine lv_iinc (v := nI (i + 1)) (lv' := [(4, .int (nI (i + 1))), (6, .int (iI (eCr n X Y i px.toInt py.toInt))), (5, .int (nI (nxt n i))), (3, .int (pI (par2 (eTg n X Y px.toInt py.toInt) i))), (0, .ref r), (1, .int px), (2, .int py)]) hx hb dX7_where_266 hl (k := 2) rfl (nI_add i 1) (by decide) rfl (fun ls hl => ?_)
                                  refine lv_goto (tgt := 5) hx hb dX7_where_269 (by decide) ?_
                                  have hl9 := lv_sub hl [0, 3, 4, 5, 6] rfl
                                  have e9_3 : pI (par2 (eTg n X Y px.toInt py.toInt) (i + 1)) = (pI (par2 (eTg n X Y px.toInt py.toInt) i) : Int32) := by first | exact zp_iff (par2_n (sk_tg (by omega)).1) | exact zp_iff (par2_n (by unfold eTg; omega)) | exact zp_t ((par2_y (by unfold eTg; omega)).mpr (by assumption)) | exact zp_f (fun q => (par2_y (by unfold eTg; omega)).mp q (by assumption))
                                  have hl9 : lv_has ls 7 [(4, .int (nI (i + 1))), (3, .int (pI (par2 (eTg n X Y px.toInt py.toInt) (i + 1)))), (0, .ref r), (1, .int px), (2, .int py)] := by rw [e9_3]; exact hl9
                                  exact ih_5 (i + 1) H locs ls (by omega) (by omega) (by intro k hk; rcases Nat.lt_or_ge k i with h | h; exact hno k h; have e9 : k = i := (by omega); subst e9; first | exact (sk_tg (by omega)).2 | (unfold eOn onS; unfold eCr at *; omega)) hP hD hS hl9
                                · exact absurd c_181 (by decide)
                              · have c_180 : (Y i).toInt < (Y (nxt n i)).toInt := zc_nle rfl rfl c_180
                                refine lv_iconst (v := 1) hx hb dX7_where_248 (by decide) ?_
                                refine lv_goto (tgt := 253) hx hb dX7_where_249 (by decide) ?_
                                refine lv_icmp_ne (tgt := 266) hx hb dX7_where_253 (by decide) (fun c_182 => ?_) (fun c_182 => ?_)
                                · exact absurd (by decide) c_182
                                · have c_182 : 1 = 1 := zc_eq (by decide) (by decide) c_182
                                  refine lv_iload_n hx hb dX7_where_256 rfl (lv_at hl 3 rfl) ?_
                                  refine lv_if_ne (tgt := 264) hx hb dX7_where_257 (by decide) (fun c_183 => ?_) (fun c_183 => ?_)
                                  · have c_183 : par2 (eTg n X Y px.toInt py.toInt) i := zp_1 c_183
                                    refine lv_iconst (v := 0) hx hb dX7_where_264 (by decide) ?_
                                    refine lv_istore_n (lv' := [(3, .int 0), (6, .int (iI (eCr n X Y i px.toInt py.toInt))), (5, .int (nI (nxt n i))), (4, .int (nI i)), (0, .ref r), (1, .int px), (2, .int py)]) hx hb dX7_where_265 rfl hl (by decide) rfl (fun ls hl => ?_)
                                    refine lv_iinc (v := nI (i + 1)) (lv' := [(4, .int (nI (i + 1))), (3, .int 0), (6, .int (iI (eCr n X Y i px.toInt py.toInt))), (5, .int (nI (nxt n i))), (0, .ref r), (1, .int px), (2, .int py)]) hx hb dX7_where_266 hl (k := 3) rfl (nI_add i 1) (by decide) rfl (fun ls hl => ?_)
                                    refine lv_goto (tgt := 5) hx hb dX7_where_269 (by decide) ?_
                                    have hl9 := lv_sub hl [0, 1, 4, 5, 6] rfl
                                    have e9_3 : pI (par2 (eTg n X Y px.toInt py.toInt) (i + 1)) = (0 : Int32) := by first | exact zp_iff (par2_n (sk_tg (by omega)).1) | exact zp_iff (par2_n (by unfold eTg; omega)) | exact zp_t ((par2_y (by unfold eTg; omega)).mpr (by assumption)) | exact zp_f (fun q => (par2_y (by unfold eTg; omega)).mp q (by assumption))
                                    have hl9 : lv_has ls 7 [(4, .int (nI (i + 1))), (3, .int (pI (par2 (eTg n X Y px.toInt py.toInt) (i + 1)))), (0, .ref r), (1, .int px), (2, .int py)] := by rw [e9_3]; exact hl9
                                    exact ih_5 (i + 1) H locs ls (by omega) (by omega) (by intro k hk; rcases Nat.lt_or_ge k i with h | h; exact hno k h; have e9 : k = i := (by omega); subst e9; first | exact (sk_tg (by omega)).2 | (unfold eOn onS; unfold eCr at *; omega)) hP hD hS hl9
                                  · have c_183 : ¬ (par2 (eTg n X Y px.toInt py.toInt) i) := zp_0 c_183
                                    refine lv_iconst (v := 1) hx hb dX7_where_260 (by decide) ?_
                                    refine lv_goto (tgt := 265) hx hb dX7_where_261 (by decide) ?_
                                    refine lv_istore_n (lv' := [(3, .int 1), (6, .int (iI (eCr n X Y i px.toInt py.toInt))), (5, .int (nI (nxt n i))), (4, .int (nI i)), (0, .ref r), (1, .int px), (2, .int py)]) hx hb dX7_where_265 rfl hl (by decide) rfl (fun ls hl => ?_)
                                    refine lv_iinc (v := nI (i + 1)) (lv' := [(4, .int (nI (i + 1))), (3, .int 1), (6, .int (iI (eCr n X Y i px.toInt py.toInt))), (5, .int (nI (nxt n i))), (0, .ref r), (1, .int px), (2, .int py)]) hx hb dX7_where_266 hl (k := 3) rfl (nI_add i 1) (by decide) rfl (fun ls hl => ?_)
                                    refine lv_goto (tgt := 5) hx hb dX7_where_269 (by decide) ?_
                                    have hl9 := lv_sub hl [0, 1, 4, 5, 6] rfl
                                    have e9_3 : pI (par2 (eTg n X Y px.toInt py.toInt) (i + 1)) = (1 : Int32) := by first | exact zp_iff (par2_n (sk_tg (by omega)).1) | exact zp_iff (par2_n (by unfold eTg; omega)) | exact zp_t ((par2_y (by unfold eTg; omega)).mpr (by assumption)) | exact zp_f (fun q => (par2_y (by unfold eTg; omega)).mp q (by assumption))
                                    have hl9 : lv_has ls 7 [(4, .int (nI (i + 1))), (3, .int (pI (par2 (eTg n X Y px.toInt py.toInt) (i + 1)))), (0, .ref r), (1, .int px), (2, .int py)] := by rw [e9_3]; exact hl9
                                    exact ih_5 (i + 1) H locs ls (by omega) (by omega) (by intro k hk; rcases Nat.lt_or_ge k i with h | h; exact hno k h; have e9 : k = i := (by omega); subst e9; first | exact (sk_tg (by omega)).2 | (unfold eOn onS; unfold eCr at *; omega)) hP hD hS hl9
                      · have c_171 : py.toInt < (Y i).toInt := zc_nle rfl rfl c_171
                        refine lv_iconst (v := 1) hx hb dX7_where_197 (by decide) ?_
                        refine lv_goto (tgt := 202) hx hb dX7_where_198 (by decide) ?_
                        refine lv_aload_n hx hb dX7_where_202 rfl (lv_at hl 4 rfl) ?_
                        refine va_get (D := (dC, dI)) (ci := 6) (v := .ref ry) (C := RX7) (T := TX7) (N := 4) hx hb hts inX7 hown hK hP 0 rfl rfl 1 (by decide) (hts _ mw_168) (fun _ h9 => h9) rfl dX7_where_203 ?_
                        refine lv_iload hx hb dX7_where_206 (lv_at hl 1 rfl) ?_
                        refine z_iald hx hb hK hP 2 0 rfl rfl (e := nxt n i) rfl (by omega) (by omega) dX7_where_208 ?_
                        refine lv_iload_n hx hb dX7_where_209 rfl (lv_at hl 6 rfl) ?_
                        refine lv_icmp_le (tgt := 217) hx hb dX7_where_210 (by decide) (fun c_184 => ?_) (fun c_184 => ?_)
                        · have c_184 : (Y (nxt n i)).toInt ≤ py.toInt := zc_le rfl rfl c_184
                          refine lv_iconst (v := 0) hx hb dX7_where_217 (by decide) ?_
                          refine lv_icmp_eq (tgt := 266) hx hb dX7_where_218 (by decide) (fun c_185 => ?_) (fun c_185 => ?_)
                          · exact absurd c_185 (by decide)
                          · have c_185 : ¬ 1 = 0 := zc_ne (by decide) (by decide) c_185
                            refine lv_iload hx hb dX7_where_221 (lv_at hl 0 rfl) ?_
                            refine lv_if_le (tgt := 230) hx hb dX7_where_223 (by decide) (fun c_186 => ?_) (fun c_186 => ?_)
                            · have c_186 : (eCr n X Y i px.toInt py.toInt) ≤ 0 := zc_le (iI_toInt (by omega)) (by decide) c_186
                              refine lv_iconst (v := 0) hx hb dX7_where_230 (by decide) ?_
                              refine lv_aload_n hx hb dX7_where_231 rfl (lv_at hl 4 rfl) ?_
                              refine va_get (D := (dC, dI)) (ci := 6) (v := .ref ry) (C := RX7) (T := TX7) (N := 4) hx hb hts inX7 hown hK hP 0 rfl rfl 1 (by decide) (hts _ mw_168) (fun _ h9 => h9) rfl dX7_where_232 ?_
                              refine lv_iload hx hb dX7_where_235 (lv_at hl 1 rfl) ?_
                              refine z_iald hx hb hK hP 2 0 rfl rfl (e := nxt n i) rfl (by omega) (by omega) dX7_where_237 ?_
                              refine lv_aload_n hx hb dX7_where_238 rfl (lv_at hl 4 rfl) ?_
                              refine va_get (D := (dC, dI)) (ci := 6) (v := .ref ry) (C := RX7) (T := TX7) (N := 4) hx hb hts inX7 hown hK hP 0 rfl rfl 1 (by decide) (hts _ mw_168) (fun _ h9 => h9) rfl dX7_where_239 ?_
                              refine lv_iload hx hb dX7_where_242 (lv_at hl 2 rfl) ?_
                              refine z_iald hx hb hK hP 2 0 rfl rfl (e := i) rfl (by omega) (by omega) dX7_where_244 ?_
                              refine lv_icmp_le (tgt := 252) hx hb dX7_where_245 (by decide) (fun c_187 => ?_) (fun c_187 => ?_)
                              · have c_187 : (Y (nxt n i)).toInt ≤ (Y i).toInt := zc_le rfl rfl c_187
                                refine lv_iconst (v := 0) hx hb dX7_where_252 (by decide) ?_
                                refine lv_icmp_ne (tgt := 266) hx hb dX7_where_253 (by decide) (fun c_188 => ?_) (fun c_188 => ?_)
                                · exact absurd (by decide) c_188
                                · have c_188 : 0 = 0 := zc_eq (by decide) (by decide) c_188
                                  refine lv_iload_n hx hb dX7_where_256 rfl (lv_at hl 3 rfl) ?_
                                  refine lv_if_ne (tgt := 264) hx hb dX7_where_257 (by decide) (fun c_189 => ?_) (fun c_189 => ?_)
                                  · have c_189 : par2 (eTg n X Y px.toInt py.toInt) i := zp_1 c_189
                                    refine lv_iconst (v := 0) hx hb dX7_where_264 (by decide) ?_
                                    refine lv_istore_n (lv' := [(3, .int 0), (6, .int (iI (eCr n X Y i px.toInt py.toInt))), (5, .int (nI (nxt n i))), (4, .int (nI i)), (0, .ref r), (1, .int px), (2, .int py)]) hx hb dX7_where_265 rfl hl (by decide) rfl (fun ls hl => ?_)
                                    refine lv_iinc (v := nI (i + 1)) (lv' := [(4, .int (nI (i + 1))), (3, .int 0), (6, .int (iI (eCr n X Y i px.toInt py.toInt))), (5, .int (nI (nxt n i))), (0, .ref r), (1, .int px), (2, .int py)]) hx hb dX7_where_266 hl (k := 3) rfl (nI_add i 1) (by decide) rfl (fun ls hl => ?_)
                                    refine lv_goto (tgt := 5) hx hb dX7_where_269 (by decide) ?_
                                    have hl9 := lv_sub hl [0, 1, 4, 5, 6] rfl
                                    have e9_3 : pI (par2 (eTg n X Y px.toInt py.toInt) (i + 1)) = (0 : Int32) := by first | exact zp_iff (par2_n (sk_tg (by omega)).1) | exact zp_iff (par2_n (by unfold eTg; omega)) | exact zp_t ((par2_y (by unfold eTg; omega)).mpr (by assumption)) | exact zp_f (fun q => (par2_y (by unfold eTg; omega)).mp q (by assumption))
                                    have hl9 : lv_has ls 7 [(4, .int (nI (i + 1))), (3, .int (pI (par2 (eTg n X Y px.toInt py.toInt) (i + 1)))), (0, .ref r), (1, .int px), (2, .int py)] := by rw [e9_3]; exact hl9
                                    exact ih_5 (i + 1) H locs ls (by omega) (by omega) (by intro k hk; rcases Nat.lt_or_ge k i with h | h; exact hno k h; have e9 : k = i := (by omega); subst e9; first | exact (sk_tg (by omega)).2 | (unfold eOn onS; unfold eCr at *; omega)) hP hD hS hl9
                                  · have c_189 : ¬ (par2 (eTg n X Y px.toInt py.toInt) i) := zp_0 c_189
                                    refine lv_iconst (v := 1) hx hb dX7_where_260 (by decide) ?_
                                    refine lv_goto (tgt := 265) hx hb dX7_where_261 (by decide) ?_
                                    refine lv_istore_n (lv' := [(3, .int 1), (6, .int (iI (eCr n X Y i px.toInt py.toInt))), (5, .int (nI (nxt n i))), (4, .int (nI i)), (0, .ref r), (1, .int px), (2, .int py)]) hx hb dX7_where_265 rfl hl (by decide) rfl (fun ls hl => ?_)
                                    refine lv_iinc (v := nI (i + 1)) (lv' := [(4, .int (nI (i + 1))), (3, .int 1), (6, .int (iI (eCr n X Y i px.toInt py.toInt))), (5, .int (nI (nxt n i))), (0, .ref r), (1, .int px), (2, .int py)]) hx hb dX7_where_266 hl (k := 3) rfl (nI_add i 1) (by decide) rfl (fun ls hl => ?_)
                                    refine lv_goto (tgt := 5) hx hb dX7_where_269 (by decide) ?_
                                    have hl9 := lv_sub hl [0, 1, 4, 5, 6] rfl
                                    have e9_3 : pI (par2 (eTg n X Y px.toInt py.toInt) (i + 1)) = (1 : Int32) := by first | exact zp_iff (par2_n (sk_tg (by omega)).1) | exact zp_iff (par2_n (by unfold eTg; omega)) | exact zp_t ((par2_y (by unfold eTg; omega)).mpr (by assumption)) | exact zp_f (fun q => (par2_y (by unfold eTg; omega)).mp q (by assumption))
                                    have hl9 : lv_has ls 7 [(4, .int (nI (i + 1))), (3, .int (pI (par2 (eTg n X Y px.toInt py.toInt) (i + 1)))), (0, .ref r), (1, .int px), (2, .int py)] := by rw [e9_3]; exact hl9
                                    exact ih_5 (i + 1) H locs ls (by omega) (by omega) (by intro k hk; rcases Nat.lt_or_ge k i with h | h; exact hno k h; have e9 : k = i := (by omega); subst e9; first | exact (sk_tg (by omega)).2 | (unfold eOn onS; unfold eCr at *; omega)) hP hD hS hl9
                              · have c_187 : (Y i).toInt < (Y (nxt n i)).toInt := zc_nle rfl rfl c_187
                                refine lv_iconst (v := 1) hx hb dX7_where_248 (by decide) ?_
                                refine lv_goto (tgt := 253) hx hb dX7_where_249 (by decide) ?_
                                refine lv_icmp_ne (tgt := 266) hx hb dX7_where_253 (by decide) (fun c_190 => ?_) (fun c_190 => ?_)
                                · have c_190 : ¬ 0 = 1 := zc_ne (by decide) (by decide) c_190
                                  refine lv_iinc (v := nI (i + 1)) (lv' := [(4, .int (nI (i + 1))), (6, .int (iI (eCr n X Y i px.toInt py.toInt))), (5, .int (nI (nxt n i))), (3, .int (pI (par2 (eTg n X Y px.toInt py.toInt) i))), (0, .ref r), (1, .int px), (2, .int py)]) hx hb dX7_where_266 hl (k := 2) rfl (nI_add i 1) (by decide) rfl (fun ls hl => ?_)
                                  refine lv_goto (tgt := 5) hx hb dX7_where_269 (by decide) ?_
                                  have hl9 := lv_sub hl [0, 3, 4, 5, 6] rfl
                                  have e9_3 : pI (par2 (eTg n X Y px.toInt py.toInt) (i + 1)) = (pI (par2 (eTg n X Y px.toInt py.toInt) i) : Int32) := by first | exact zp_iff (par2_n (sk_tg (by omega)).1) | exact zp_iff (par2_n (by unfold eTg; omega)) | exact zp_t ((par2_y (by unfold eTg; omega)).mpr (by assumption)) | exact zp_f (fun q => (par2_y (by unfold eTg; omega)).mp q (by assumption))
                                  have hl9 : lv_has ls 7 [(4, .int (nI (i + 1))), (3, .int (pI (par2 (eTg n X Y px.toInt py.toInt) (i + 1)))), (0, .ref r), (1, .int px), (2, .int py)] := by rw [e9_3]; exact hl9
                                  exact ih_5 (i + 1) H locs ls (by omega) (by omega) (by intro k hk; rcases Nat.lt_or_ge k i with h | h; exact hno k h; have e9 : k = i := (by omega); subst e9; first | exact (sk_tg (by omega)).2 | (unfold eOn onS; unfold eCr at *; omega)) hP hD hS hl9
                                · exact absurd c_190 (by decide)
                            · have c_186 : 0 < (eCr n X Y i px.toInt py.toInt) := zc_nle (iI_toInt (by omega)) (by decide) c_186
                              refine lv_iconst (v := 1) hx hb dX7_where_226 (by decide) ?_
                              refine lv_goto (tgt := 231) hx hb dX7_where_227 (by decide) ?_
                              refine lv_aload_n hx hb dX7_where_231 rfl (lv_at hl 4 rfl) ?_
                              refine va_get (D := (dC, dI)) (ci := 6) (v := .ref ry) (C := RX7) (T := TX7) (N := 4) hx hb hts inX7 hown hK hP 0 rfl rfl 1 (by decide) (hts _ mw_168) (fun _ h9 => h9) rfl dX7_where_232 ?_
                              refine lv_iload hx hb dX7_where_235 (lv_at hl 1 rfl) ?_
                              refine z_iald hx hb hK hP 2 0 rfl rfl (e := nxt n i) rfl (by omega) (by omega) dX7_where_237 ?_
                              refine lv_aload_n hx hb dX7_where_238 rfl (lv_at hl 4 rfl) ?_
                              refine va_get (D := (dC, dI)) (ci := 6) (v := .ref ry) (C := RX7) (T := TX7) (N := 4) hx hb hts inX7 hown hK hP 0 rfl rfl 1 (by decide) (hts _ mw_168) (fun _ h9 => h9) rfl dX7_where_239 ?_
                              refine lv_iload hx hb dX7_where_242 (lv_at hl 2 rfl) ?_
                              refine z_iald hx hb hK hP 2 0 rfl rfl (e := i) rfl (by omega) (by omega) dX7_where_244 ?_
                              refine lv_icmp_le (tgt := 252) hx hb dX7_where_245 (by decide) (fun c_191 => ?_) (fun c_191 => ?_)
                              · have c_191 : (Y (nxt n i)).toInt ≤ (Y i).toInt := zc_le rfl rfl c_191
                                refine lv_iconst (v := 0) hx hb dX7_where_252 (by decide) ?_
                                refine lv_icmp_ne (tgt := 266) hx hb dX7_where_253 (by decide) (fun c_192 => ?_) (fun c_192 => ?_)
                                · have c_192 : ¬ 1 = 0 := zc_ne (by decide) (by decide) c_192
                                  refine lv_iinc (v := nI (i + 1)) (lv' := [(4, .int (nI (i + 1))), (6, .int (iI (eCr n X Y i px.toInt py.toInt))), (5, .int (nI (nxt n i))), (3, .int (pI (par2 (eTg n X Y px.toInt py.toInt) i))), (0, .ref r), (1, .int px), (2, .int py)]) hx hb dX7_where_266 hl (k := 2) rfl (nI_add i 1) (by decide) rfl (fun ls hl => ?_)
                                  refine lv_goto (tgt := 5) hx hb dX7_where_269 (by decide) ?_
                                  have hl9 := lv_sub hl [0, 3, 4, 5, 6] rfl
                                  have e9_3 : pI (par2 (eTg n X Y px.toInt py.toInt) (i + 1)) = (pI (par2 (eTg n X Y px.toInt py.toInt) i) : Int32) := by first | exact zp_iff (par2_n (sk_tg (by omega)).1) | exact zp_iff (par2_n (by unfold eTg; omega)) | exact zp_t ((par2_y (by unfold eTg; omega)).mpr (by assumption)) | exact zp_f (fun q => (par2_y (by unfold eTg; omega)).mp q (by assumption))
                                  have hl9 : lv_has ls 7 [(4, .int (nI (i + 1))), (3, .int (pI (par2 (eTg n X Y px.toInt py.toInt) (i + 1)))), (0, .ref r), (1, .int px), (2, .int py)] := by rw [e9_3]; exact hl9
                                  exact ih_5 (i + 1) H locs ls (by omega) (by omega) (by intro k hk; rcases Nat.lt_or_ge k i with h | h; exact hno k h; have e9 : k = i := (by omega); subst e9; first | exact (sk_tg (by omega)).2 | (unfold eOn onS; unfold eCr at *; omega)) hP hD hS hl9
                                · exact absurd c_192 (by decide)
                              · have c_191 : (Y i).toInt < (Y (nxt n i)).toInt := zc_nle rfl rfl c_191
                                refine lv_iconst (v := 1) hx hb dX7_where_248 (by decide) ?_
                                refine lv_goto (tgt := 253) hx hb dX7_where_249 (by decide) ?_
                                refine lv_icmp_ne (tgt := 266) hx hb dX7_where_253 (by decide) (fun c_193 => ?_) (fun c_193 => ?_)
                                · exact absurd (by decide) c_193
                                · have c_193 : 1 = 1 := zc_eq (by decide) (by decide) c_193
                                  refine lv_iload_n hx hb dX7_where_256 rfl (lv_at hl 3 rfl) ?_
                                  refine lv_if_ne (tgt := 264) hx hb dX7_where_257 (by decide) (fun c_194 => ?_) (fun c_194 => ?_)
                                  · have c_194 : par2 (eTg n X Y px.toInt py.toInt) i := zp_1 c_194
                                    refine lv_iconst (v := 0) hx hb dX7_where_264 (by decide) ?_
                                    refine lv_istore_n (lv' := [(3, .int 0), (6, .int (iI (eCr n X Y i px.toInt py.toInt))), (5, .int (nI (nxt n i))), (4, .int (nI i)), (0, .ref r), (1, .int px), (2, .int py)]) hx hb dX7_where_265 rfl hl (by decide) rfl (fun ls hl => ?_)
                                    refine lv_iinc (v := nI (i + 1)) (lv' := [(4, .int (nI (i + 1))), (3, .int 0), (6, .int (iI (eCr n X Y i px.toInt py.toInt))), (5, .int (nI (nxt n i))), (0, .ref r), (1, .int px), (2, .int py)]) hx hb dX7_where_266 hl (k := 3) rfl (nI_add i 1) (by decide) rfl (fun ls hl => ?_)
                                    refine lv_goto (tgt := 5) hx hb dX7_where_269 (by decide) ?_
                                    have hl9 := lv_sub hl [0, 1, 4, 5, 6] rfl
                                    have e9_3 : pI (par2 (eTg n X Y px.toInt py.toInt) (i + 1)) = (0 : Int32) := by first | exact zp_iff (par2_n (sk_tg (by omega)).1) | exact zp_iff (par2_n (by unfold eTg; omega)) | exact zp_t ((par2_y (by unfold eTg; omega)).mpr (by assumption)) | exact zp_f (fun q => (par2_y (by unfold eTg; omega)).mp q (by assumption))
                                    have hl9 : lv_has ls 7 [(4, .int (nI (i + 1))), (3, .int (pI (par2 (eTg n X Y px.toInt py.toInt) (i + 1)))), (0, .ref r), (1, .int px), (2, .int py)] := by rw [e9_3]; exact hl9
                                    exact ih_5 (i + 1) H locs ls (by omega) (by omega) (by intro k hk; rcases Nat.lt_or_ge k i with h | h; exact hno k h; have e9 : k = i := (by omega); subst e9; first | exact (sk_tg (by omega)).2 | (unfold eOn onS; unfold eCr at *; omega)) hP hD hS hl9
                                  · have c_194 : ¬ (par2 (eTg n X Y px.toInt py.toInt) i) := zp_0 c_194
                                    refine lv_iconst (v := 1) hx hb dX7_where_260 (by decide) ?_
                                    refine lv_goto (tgt := 265) hx hb dX7_where_261 (by decide) ?_
                                    refine lv_istore_n (lv' := [(3, .int 1), (6, .int (iI (eCr n X Y i px.toInt py.toInt))), (5, .int (nI (nxt n i))), (4, .int (nI i)), (0, .ref r), (1, .int px), (2, .int py)]) hx hb dX7_where_265 rfl hl (by decide) rfl (fun ls hl => ?_)
                                    refine lv_iinc (v := nI (i + 1)) (lv' := [(4, .int (nI (i + 1))), (3, .int 1), (6, .int (iI (eCr n X Y i px.toInt py.toInt))), (5, .int (nI (nxt n i))), (0, .ref r), (1, .int px), (2, .int py)]) hx hb dX7_where_266 hl (k := 3) rfl (nI_add i 1) (by decide) rfl (fun ls hl => ?_)
                                    refine lv_goto (tgt := 5) hx hb dX7_where_269 (by decide) ?_
                                    have hl9 := lv_sub hl [0, 1, 4, 5, 6] rfl
                                    have e9_3 : pI (par2 (eTg n X Y px.toInt py.toInt) (i + 1)) = (1 : Int32) := by first | exact zp_iff (par2_n (sk_tg (by omega)).1) | exact zp_iff (par2_n (by unfold eTg; omega)) | exact zp_t ((par2_y (by unfold eTg; omega)).mpr (by assumption)) | exact zp_f (fun q => (par2_y (by unfold eTg; omega)).mp q (by assumption))
                                    have hl9 : lv_has ls 7 [(4, .int (nI (i + 1))), (3, .int (pI (par2 (eTg n X Y px.toInt py.toInt) (i + 1)))), (0, .ref r), (1, .int px), (2, .int py)] := by rw [e9_3]; exact hl9
                                    exact ih_5 (i + 1) H locs ls (by omega) (by omega) (by intro k hk; rcases Nat.lt_or_ge k i with h | h; exact hno k h; have e9 : k = i := (by omega); subst e9; first | exact (sk_tg (by omega)).2 | (unfold eOn onS; unfold eCr at *; omega)) hP hD hS hl9
                        · have c_184 : py.toInt < (Y (nxt n i)).toInt := zc_nle rfl rfl c_184
                          refine lv_iconst (v := 1) hx hb dX7_where_213 (by decide) ?_
                          refine lv_goto (tgt := 218) hx hb dX7_where_214 (by decide) ?_
                          refine lv_icmp_eq (tgt := 266) hx hb dX7_where_218 (by decide) (fun c_195 => ?_) (fun c_195 => ?_)
                          · have c_195 : 1 = 1 := zc_eq (by decide) (by decide) c_195
                            refine lv_iinc (v := nI (i + 1)) (lv' := [(4, .int (nI (i + 1))), (6, .int (iI (eCr n X Y i px.toInt py.toInt))), (5, .int (nI (nxt n i))), (3, .int (pI (par2 (eTg n X Y px.toInt py.toInt) i))), (0, .ref r), (1, .int px), (2, .int py)]) hx hb dX7_where_266 hl (k := 2) rfl (nI_add i 1) (by decide) rfl (fun ls hl => ?_)
                            refine lv_goto (tgt := 5) hx hb dX7_where_269 (by decide) ?_
                            have hl9 := lv_sub hl [0, 3, 4, 5, 6] rfl
                            have e9_3 : pI (par2 (eTg n X Y px.toInt py.toInt) (i + 1)) = (pI (par2 (eTg n X Y px.toInt py.toInt) i) : Int32) := by first | exact zp_iff (par2_n (sk_tg (by omega)).1) | exact zp_iff (par2_n (by unfold eTg; omega)) | exact zp_t ((par2_y (by unfold eTg; omega)).mpr (by assumption)) | exact zp_f (fun q => (par2_y (by unfold eTg; omega)).mp q (by assumption))
                            have hl9 : lv_has ls 7 [(4, .int (nI (i + 1))), (3, .int (pI (par2 (eTg n X Y px.toInt py.toInt) (i + 1)))), (0, .ref r), (1, .int px), (2, .int py)] := by rw [e9_3]; exact hl9
                            exact ih_5 (i + 1) H locs ls (by omega) (by omega) (by intro k hk; rcases Nat.lt_or_ge k i with h | h; exact hno k h; have e9 : k = i := (by omega); subst e9; first | exact (sk_tg (by omega)).2 | (unfold eOn onS; unfold eCr at *; omega)) hP hD hS hl9
                          · exact absurd (by decide) c_195
                    · have c_170 : (eCr n X Y i px.toInt py.toInt) = 0 := zc_eq (iI_toInt (by omega)) (by decide) c_170
                      refine lv_aload_n hx hb dX7_where_162 rfl (lv_at hl 4 rfl) ?_
                      refine va_get (D := (dC, dI)) (ci := 6) (v := .ref rx) (C := RX7) (T := TX7) (N := 4) hx hb hts inX7 hown hK hP 0 rfl rfl 0 (by decide) (hts _ mw_161) (fun _ h9 => h9) rfl dX7_where_163 ?_
                      refine lv_iload hx hb dX7_where_166 (lv_at hl 2 rfl) ?_
                      refine z_iald hx hb hK hP 1 0 rfl rfl (e := i) rfl (by omega) (by omega) dX7_where_168 ?_
                      refine lv_iload_n hx hb dX7_where_169 rfl (lv_at hl 5 rfl) ?_
                      refine lv_icmp_le (tgt := 184) hx hb dX7_where_170 (by decide) (fun c_196 => ?_) (fun c_196 => ?_)
                      · have c_196 : (X i).toInt ≤ px.toInt := zc_le rfl rfl c_196
                        refine lv_iconst (v := 2) hx hb dX7_where_184 (by decide) ?_
                        have hP9 := hP.sub (ws' := [(r, .inr (6, [.ref rx, .ref ry, .int (nI n), .int rg])), (rx, .inl (cI, cap, .inl X)), (ry, .inl (cI, cap, .inl Y))]) [0, 1, 2] rfl
                        have hD9 := hD.sub (ws' := [(r, .inr (6, [.ref rx, .ref ry, .int (nI n), .int rg])), (rx, .inl (cI, cap, .inl X)), (ry, .inl (cI, cap, .inl Y))]) [0, 1, 2] (by decide) rfl
                        rw [hQ9]
                        exact W.iret (v := 2) hx hb hr (fun t ht hW => ⟨⟨congrArg (fun z => Outcome.returned (some (Value.int z))) (show (2 : Int32) = whr n X Y px.toInt py.toInt from (whr_2 ⟨i, by omega, by unfold eOn onS; unfold eCr at *; omega⟩).symm), by rw [ht]; exact hP9, hD9⟩, hS.F ht⟩) hS.2.2 dX7_where_185
                      · have c_196 : px.toInt < (X i).toInt := zc_nle rfl rfl c_196
                        refine lv_aload_n hx hb dX7_where_173 rfl (lv_at hl 4 rfl) ?_
                        refine va_get (D := (dC, dI)) (ci := 6) (v := .ref rx) (C := RX7) (T := TX7) (N := 4) hx hb hts inX7 hown hK hP 0 rfl rfl 0 (by decide) (hts _ mw_161) (fun _ h9 => h9) rfl dX7_where_174 ?_
                        refine lv_iload hx hb dX7_where_177 (lv_at hl 1 rfl) ?_
                        refine z_iald hx hb hK hP 1 0 rfl rfl (e := nxt n i) rfl (by omega) (by omega) dX7_where_179 ?_
                        refine lv_iload_n hx hb dX7_where_180 rfl (lv_at hl 5 rfl) ?_
                        refine lv_icmp_gt (tgt := 186) hx hb dX7_where_181 (by decide) (fun c_197 => ?_) (fun c_197 => ?_)
                        · have c_197 : px.toInt < (X (nxt n i)).toInt := zc_lt rfl rfl c_197
                          refine lv_aload_n hx hb dX7_where_186 rfl (lv_at hl 4 rfl) ?_
                          refine va_get (D := (dC, dI)) (ci := 6) (v := .ref ry) (C := RX7) (T := TX7) (N := 4) hx hb hts inX7 hown hK hP 0 rfl rfl 1 (by decide) (hts _ mw_168) (fun _ h9 => h9) rfl dX7_where_187 ?_
                          refine lv_iload hx hb dX7_where_190 (lv_at hl 2 rfl) ?_
                          refine z_iald hx hb hK hP 2 0 rfl rfl (e := i) rfl (by omega) (by omega) dX7_where_192 ?_
                          refine lv_iload_n hx hb dX7_where_193 rfl (lv_at hl 6 rfl) ?_
                          refine lv_icmp_le (tgt := 201) hx hb dX7_where_194 (by decide) (fun c_198 => ?_) (fun c_198 => ?_)
                          · have c_198 : (Y i).toInt ≤ py.toInt := zc_le rfl rfl c_198
                            refine lv_iconst (v := 0) hx hb dX7_where_201 (by decide) ?_
                            refine lv_aload_n hx hb dX7_where_202 rfl (lv_at hl 4 rfl) ?_
                            refine va_get (D := (dC, dI)) (ci := 6) (v := .ref ry) (C := RX7) (T := TX7) (N := 4) hx hb hts inX7 hown hK hP 0 rfl rfl 1 (by decide) (hts _ mw_168) (fun _ h9 => h9) rfl dX7_where_203 ?_
                            refine lv_iload hx hb dX7_where_206 (lv_at hl 1 rfl) ?_
                            refine z_iald hx hb hK hP 2 0 rfl rfl (e := nxt n i) rfl (by omega) (by omega) dX7_where_208 ?_
                            refine lv_iload_n hx hb dX7_where_209 rfl (lv_at hl 6 rfl) ?_
                            refine lv_icmp_le (tgt := 217) hx hb dX7_where_210 (by decide) (fun c_199 => ?_) (fun c_199 => ?_)
                            · have c_199 : (Y (nxt n i)).toInt ≤ py.toInt := zc_le rfl rfl c_199
                              refine lv_iconst (v := 0) hx hb dX7_where_217 (by decide) ?_
                              refine lv_icmp_eq (tgt := 266) hx hb dX7_where_218 (by decide) (fun c_200 => ?_) (fun c_200 => ?_)
                              · have c_200 : 0 = 0 := zc_eq (by decide) (by decide) c_200
                                refine lv_iinc (v := nI (i + 1)) (lv' := [(4, .int (nI (i + 1))), (6, .int (iI (eCr n X Y i px.toInt py.toInt))), (5, .int (nI (nxt n i))), (3, .int (pI (par2 (eTg n X Y px.toInt py.toInt) i))), (0, .ref r), (1, .int px), (2, .int py)]) hx hb dX7_where_266 hl (k := 2) rfl (nI_add i 1) (by decide) rfl (fun ls hl => ?_)
                                refine lv_goto (tgt := 5) hx hb dX7_where_269 (by decide) ?_
                                have hl9 := lv_sub hl [0, 3, 4, 5, 6] rfl
                                have e9_3 : pI (par2 (eTg n X Y px.toInt py.toInt) (i + 1)) = (pI (par2 (eTg n X Y px.toInt py.toInt) i) : Int32) := by first | exact zp_iff (par2_n (sk_tg (by omega)).1) | exact zp_iff (par2_n (by unfold eTg; omega)) | exact zp_t ((par2_y (by unfold eTg; omega)).mpr (by assumption)) | exact zp_f (fun q => (par2_y (by unfold eTg; omega)).mp q (by assumption))
                                have hl9 : lv_has ls 7 [(4, .int (nI (i + 1))), (3, .int (pI (par2 (eTg n X Y px.toInt py.toInt) (i + 1)))), (0, .ref r), (1, .int px), (2, .int py)] := by rw [e9_3]; exact hl9
                                exact ih_5 (i + 1) H locs ls (by omega) (by omega) (by intro k hk; rcases Nat.lt_or_ge k i with h | h; exact hno k h; have e9 : k = i := (by omega); subst e9; first | exact (sk_tg (by omega)).2 | (unfold eOn onS; unfold eCr at *; omega)) hP hD hS hl9
                              · exact absurd (by decide) c_200
                            · have c_199 : py.toInt < (Y (nxt n i)).toInt := zc_nle rfl rfl c_199
                              refine lv_iconst (v := 1) hx hb dX7_where_213 (by decide) ?_
                              refine lv_goto (tgt := 218) hx hb dX7_where_214 (by decide) ?_
                              refine lv_icmp_eq (tgt := 266) hx hb dX7_where_218 (by decide) (fun c_201 => ?_) (fun c_201 => ?_)
                              · exact absurd c_201 (by decide)
                              · have c_201 : ¬ 0 = 1 := zc_ne (by decide) (by decide) c_201
                                refine lv_iload hx hb dX7_where_221 (lv_at hl 0 rfl) ?_
                                refine lv_if_le (tgt := 230) hx hb dX7_where_223 (by decide) (fun c_202 => ?_) (fun c_202 => ?_)
                                · have c_202 : (eCr n X Y i px.toInt py.toInt) ≤ 0 := zc_le (iI_toInt (by omega)) (by decide) c_202
                                  refine lv_iconst (v := 0) hx hb dX7_where_230 (by decide) ?_
                                  refine lv_aload_n hx hb dX7_where_231 rfl (lv_at hl 4 rfl) ?_
                                  refine va_get (D := (dC, dI)) (ci := 6) (v := .ref ry) (C := RX7) (T := TX7) (N := 4) hx hb hts inX7 hown hK hP 0 rfl rfl 1 (by decide) (hts _ mw_168) (fun _ h9 => h9) rfl dX7_where_232 ?_
                                  refine lv_iload hx hb dX7_where_235 (lv_at hl 1 rfl) ?_
                                  refine z_iald hx hb hK hP 2 0 rfl rfl (e := nxt n i) rfl (by omega) (by omega) dX7_where_237 ?_
                                  refine lv_aload_n hx hb dX7_where_238 rfl (lv_at hl 4 rfl) ?_
                                  refine va_get (D := (dC, dI)) (ci := 6) (v := .ref ry) (C := RX7) (T := TX7) (N := 4) hx hb hts inX7 hown hK hP 0 rfl rfl 1 (by decide) (hts _ mw_168) (fun _ h9 => h9) rfl dX7_where_239 ?_
                                  refine lv_iload hx hb dX7_where_242 (lv_at hl 2 rfl) ?_
                                  refine z_iald hx hb hK hP 2 0 rfl rfl (e := i) rfl (by omega) (by omega) dX7_where_244 ?_
                                  refine lv_icmp_le (tgt := 252) hx hb dX7_where_245 (by decide) (fun c_203 => ?_) (fun c_203 => ?_)
                                  · have c_203 : (Y (nxt n i)).toInt ≤ (Y i).toInt := zc_le rfl rfl c_203
                                    refine lv_iconst (v := 0) hx hb dX7_where_252 (by decide) ?_
                                    refine lv_icmp_ne (tgt := 266) hx hb dX7_where_253 (by decide) (fun c_204 => ?_) (fun c_204 => ?_)
                                    · exact absurd (by decide) c_204
                                    · have c_204 : 0 = 0 := zc_eq (by decide) (by decide) c_204
                                      refine lv_iload_n hx hb dX7_where_256 rfl (lv_at hl 3 rfl) ?_
                                      refine lv_if_ne (tgt := 264) hx hb dX7_where_257 (by decide) (fun c_205 => ?_) (fun c_205 => ?_)
                                      · have c_205 : par2 (eTg n X Y px.toInt py.toInt) i := zp_1 c_205
                                        refine lv_iconst (v := 0) hx hb dX7_where_264 (by decide) ?_
                                        refine lv_istore_n (lv' := [(3, .int 0), (6, .int (iI (eCr n X Y i px.toInt py.toInt))), (5, .int (nI (nxt n i))), (4, .int (nI i)), (0, .ref r), (1, .int px), (2, .int py)]) hx hb dX7_where_265 rfl hl (by decide) rfl (fun ls hl => ?_)
                                        refine lv_iinc (v := nI (i + 1)) (lv' := [(4, .int (nI (i + 1))), (3, .int 0), (6, .int (iI (eCr n X Y i px.toInt py.toInt))), (5, .int (nI (nxt n i))), (0, .ref r), (1, .int px), (2, .int py)]) hx hb dX7_where_266 hl (k := 3) rfl (nI_add i 1) (by decide) rfl (fun ls hl => ?_)
                                        refine lv_goto (tgt := 5) hx hb dX7_where_269 (by decide) ?_
                                        have hl9 := lv_sub hl [0, 1, 4, 5, 6] rfl
                                        have e9_3 : pI (par2 (eTg n X Y px.toInt py.toInt) (i + 1)) = (0 : Int32) := by first | exact zp_iff (par2_n (sk_tg (by omega)).1) | exact zp_iff (par2_n (by unfold eTg; omega)) | exact zp_t ((par2_y (by unfold eTg; omega)).mpr (by assumption)) | exact zp_f (fun q => (par2_y (by unfold eTg; omega)).mp q (by assumption))
                                        have hl9 : lv_has ls 7 [(4, .int (nI (i + 1))), (3, .int (pI (par2 (eTg n X Y px.toInt py.toInt) (i + 1)))), (0, .ref r), (1, .int px), (2, .int py)] := by rw [e9_3]; exact hl9
                                        exact ih_5 (i + 1) H locs ls (by omega) (by omega) (by intro k hk; rcases Nat.lt_or_ge k i with h | h; exact hno k h; have e9 : k = i := (by omega); subst e9; first | exact (sk_tg (by omega)).2 | (unfold eOn onS; unfold eCr at *; omega)) hP hD hS hl9
                                      · have c_205 : ¬ (par2 (eTg n X Y px.toInt py.toInt) i) := zp_0 c_205
                                        refine lv_iconst (v := 1) hx hb dX7_where_260 (by decide) ?_
                                        refine lv_goto (tgt := 265) hx hb dX7_where_261 (by decide) ?_
                                        refine lv_istore_n (lv' := [(3, .int 1), (6, .int (iI (eCr n X Y i px.toInt py.toInt))), (5, .int (nI (nxt n i))), (4, .int (nI i)), (0, .ref r), (1, .int px), (2, .int py)]) hx hb dX7_where_265 rfl hl (by decide) rfl (fun ls hl => ?_)
                                        refine lv_iinc (v := nI (i + 1)) (lv' := [(4, .int (nI (i + 1))), (3, .int 1), (6, .int (iI (eCr n X Y i px.toInt py.toInt))), (5, .int (nI (nxt n i))), (0, .ref r), (1, .int px), (2, .int py)]) hx hb dX7_where_266 hl (k := 3) rfl (nI_add i 1) (by decide) rfl (fun ls hl => ?_)
                                        refine lv_goto (tgt := 5) hx hb dX7_where_269 (by decide) ?_
                                        have hl9 := lv_sub hl [0, 1, 4, 5, 6] rfl
                                        have e9_3 : pI (par2 (eTg n X Y px.toInt py.toInt) (i + 1)) = (1 : Int32) := by first | exact zp_iff (par2_n (sk_tg (by omega)).1) | exact zp_iff (par2_n (by unfold eTg; omega)) | exact zp_t ((par2_y (by unfold eTg; omega)).mpr (by assumption)) | exact zp_f (fun q => (par2_y (by unfold eTg; omega)).mp q (by assumption))
                                        have hl9 : lv_has ls 7 [(4, .int (nI (i + 1))), (3, .int (pI (par2 (eTg n X Y px.toInt py.toInt) (i + 1)))), (0, .ref r), (1, .int px), (2, .int py)] := by rw [e9_3]; exact hl9
                                        exact ih_5 (i + 1) H locs ls (by omega) (by omega) (by intro k hk; rcases Nat.lt_or_ge k i with h | h; exact hno k h; have e9 : k = i := (by omega); subst e9; first | exact (sk_tg (by omega)).2 | (unfold eOn onS; unfold eCr at *; omega)) hP hD hS hl9
                                  · have c_203 : (Y i).toInt < (Y (nxt n i)).toInt := zc_nle rfl rfl c_203
                                    refine lv_iconst (v := 1) hx hb dX7_where_248 (by decide) ?_
                                    refine lv_goto (tgt := 253) hx hb dX7_where_249 (by decide) ?_
                                    refine lv_icmp_ne (tgt := 266) hx hb dX7_where_253 (by decide) (fun c_206 => ?_) (fun c_206 => ?_)
                                    · have c_206 : ¬ 0 = 1 := zc_ne (by decide) (by decide) c_206
                                      refine lv_iinc (v := nI (i + 1)) (lv' := [(4, .int (nI (i + 1))), (6, .int (iI (eCr n X Y i px.toInt py.toInt))), (5, .int (nI (nxt n i))), (3, .int (pI (par2 (eTg n X Y px.toInt py.toInt) i))), (0, .ref r), (1, .int px), (2, .int py)]) hx hb dX7_where_266 hl (k := 2) rfl (nI_add i 1) (by decide) rfl (fun ls hl => ?_)
                                      refine lv_goto (tgt := 5) hx hb dX7_where_269 (by decide) ?_
                                      have hl9 := lv_sub hl [0, 3, 4, 5, 6] rfl
                                      have e9_3 : pI (par2 (eTg n X Y px.toInt py.toInt) (i + 1)) = (pI (par2 (eTg n X Y px.toInt py.toInt) i) : Int32) := by first | exact zp_iff (par2_n (sk_tg (by omega)).1) | exact zp_iff (par2_n (by unfold eTg; omega)) | exact zp_t ((par2_y (by unfold eTg; omega)).mpr (by assumption)) | exact zp_f (fun q => (par2_y (by unfold eTg; omega)).mp q (by assumption))
                                      have hl9 : lv_has ls 7 [(4, .int (nI (i + 1))), (3, .int (pI (par2 (eTg n X Y px.toInt py.toInt) (i + 1)))), (0, .ref r), (1, .int px), (2, .int py)] := by rw [e9_3]; exact hl9
                                      exact ih_5 (i + 1) H locs ls (by omega) (by omega) (by intro k hk; rcases Nat.lt_or_ge k i with h | h; exact hno k h; have e9 : k = i := (by omega); subst e9; first | exact (sk_tg (by omega)).2 | (unfold eOn onS; unfold eCr at *; omega)) hP hD hS hl9
                                    · exact absurd c_206 (by decide)
                                · have c_202 : 0 < (eCr n X Y i px.toInt py.toInt) := zc_nle (iI_toInt (by omega)) (by decide) c_202
                                  refine lv_iconst (v := 1) hx hb dX7_where_226 (by decide) ?_
                                  refine lv_goto (tgt := 231) hx hb dX7_where_227 (by decide) ?_
                                  refine lv_aload_n hx hb dX7_where_231 rfl (lv_at hl 4 rfl) ?_
                                  refine va_get (D := (dC, dI)) (ci := 6) (v := .ref ry) (C := RX7) (T := TX7) (N := 4) hx hb hts inX7 hown hK hP 0 rfl rfl 1 (by decide) (hts _ mw_168) (fun _ h9 => h9) rfl dX7_where_232 ?_
                                  refine lv_iload hx hb dX7_where_235 (lv_at hl 1 rfl) ?_
                                  refine z_iald hx hb hK hP 2 0 rfl rfl (e := nxt n i) rfl (by omega) (by omega) dX7_where_237 ?_
                                  refine lv_aload_n hx hb dX7_where_238 rfl (lv_at hl 4 rfl) ?_
                                  refine va_get (D := (dC, dI)) (ci := 6) (v := .ref ry) (C := RX7) (T := TX7) (N := 4) hx hb hts inX7 hown hK hP 0 rfl rfl 1 (by decide) (hts _ mw_168) (fun _ h9 => h9) rfl dX7_where_239 ?_
                                  refine lv_iload hx hb dX7_where_242 (lv_at hl 2 rfl) ?_
                                  refine z_iald hx hb hK hP 2 0 rfl rfl (e := i) rfl (by omega) (by omega) dX7_where_244 ?_
                                  refine lv_icmp_le (tgt := 252) hx hb dX7_where_245 (by decide) (fun c_207 => ?_) (fun c_207 => ?_)
                                  · have c_207 : (Y (nxt n i)).toInt ≤ (Y i).toInt := zc_le rfl rfl c_207
                                    refine lv_iconst (v := 0) hx hb dX7_where_252 (by decide) ?_
                                    refine lv_icmp_ne (tgt := 266) hx hb dX7_where_253 (by decide) (fun c_208 => ?_) (fun c_208 => ?_)
                                    · have c_208 : ¬ 1 = 0 := zc_ne (by decide) (by decide) c_208
                                      refine lv_iinc (v := nI (i + 1)) (lv' := [(4, .int (nI (i + 1))), (6, .int (iI (eCr n X Y i px.toInt py.toInt))), (5, .int (nI (nxt n i))), (3, .int (pI (par2 (eTg n X Y px.toInt py.toInt) i))), (0, .ref r), (1, .int px), (2, .int py)]) hx hb dX7_where_266 hl (k := 2) rfl (nI_add i 1) (by decide) rfl (fun ls hl => ?_)
                                      refine lv_goto (tgt := 5) hx hb dX7_where_269 (by decide) ?_
                                      have hl9 := lv_sub hl [0, 3, 4, 5, 6] rfl
                                      have e9_3 : pI (par2 (eTg n X Y px.toInt py.toInt) (i + 1)) = (pI (par2 (eTg n X Y px.toInt py.toInt) i) : Int32) := by first | exact zp_iff (par2_n (sk_tg (by omega)).1) | exact zp_iff (par2_n (by unfold eTg; omega)) | exact zp_t ((par2_y (by unfold eTg; omega)).mpr (by assumption)) | exact zp_f (fun q => (par2_y (by unfold eTg; omega)).mp q (by assumption))
                                      have hl9 : lv_has ls 7 [(4, .int (nI (i + 1))), (3, .int (pI (par2 (eTg n X Y px.toInt py.toInt) (i + 1)))), (0, .ref r), (1, .int px), (2, .int py)] := by rw [e9_3]; exact hl9
                                      exact ih_5 (i + 1) H locs ls (by omega) (by omega) (by intro k hk; rcases Nat.lt_or_ge k i with h | h; exact hno k h; have e9 : k = i := (by omega); subst e9; first | exact (sk_tg (by omega)).2 | (unfold eOn onS; unfold eCr at *; omega)) hP hD hS hl9
                                    · exact absurd c_208 (by decide)
                                  · have c_207 : (Y i).toInt < (Y (nxt n i)).toInt := zc_nle rfl rfl c_207
                                    refine lv_iconst (v := 1) hx hb dX7_where_248 (by decide) ?_
                                    refine lv_goto (tgt := 253) hx hb dX7_where_249 (by decide) ?_
                                    refine lv_icmp_ne (tgt := 266) hx hb dX7_where_253 (by decide) (fun c_209 => ?_) (fun c_209 => ?_)
                                    · exact absurd (by decide) c_209
                                    · have c_209 : 1 = 1 := zc_eq (by decide) (by decide) c_209
                                      refine lv_iload_n hx hb dX7_where_256 rfl (lv_at hl 3 rfl) ?_
                                      refine lv_if_ne (tgt := 264) hx hb dX7_where_257 (by decide) (fun c_210 => ?_) (fun c_210 => ?_)
                                      · have c_210 : par2 (eTg n X Y px.toInt py.toInt) i := zp_1 c_210
                                        refine lv_iconst (v := 0) hx hb dX7_where_264 (by decide) ?_
                                        refine lv_istore_n (lv' := [(3, .int 0), (6, .int (iI (eCr n X Y i px.toInt py.toInt))), (5, .int (nI (nxt n i))), (4, .int (nI i)), (0, .ref r), (1, .int px), (2, .int py)]) hx hb dX7_where_265 rfl hl (by decide) rfl (fun ls hl => ?_)
                                        refine lv_iinc (v := nI (i + 1)) (lv' := [(4, .int (nI (i + 1))), (3, .int 0), (6, .int (iI (eCr n X Y i px.toInt py.toInt))), (5, .int (nI (nxt n i))), (0, .ref r), (1, .int px), (2, .int py)]) hx hb dX7_where_266 hl (k := 3) rfl (nI_add i 1) (by decide) rfl (fun ls hl => ?_)
                                        refine lv_goto (tgt := 5) hx hb dX7_where_269 (by decide) ?_
                                        have hl9 := lv_sub hl [0, 1, 4, 5, 6] rfl
                                        have e9_3 : pI (par2 (eTg n X Y px.toInt py.toInt) (i + 1)) = (0 : Int32) := by first | exact zp_iff (par2_n (sk_tg (by omega)).1) | exact zp_iff (par2_n (by unfold eTg; omega)) | exact zp_t ((par2_y (by unfold eTg; omega)).mpr (by assumption)) | exact zp_f (fun q => (par2_y (by unfold eTg; omega)).mp q (by assumption))
                                        have hl9 : lv_has ls 7 [(4, .int (nI (i + 1))), (3, .int (pI (par2 (eTg n X Y px.toInt py.toInt) (i + 1)))), (0, .ref r), (1, .int px), (2, .int py)] := by rw [e9_3]; exact hl9
                                        exact ih_5 (i + 1) H locs ls (by omega) (by omega) (by intro k hk; rcases Nat.lt_or_ge k i with h | h; exact hno k h; have e9 : k = i := (by omega); subst e9; first | exact (sk_tg (by omega)).2 | (unfold eOn onS; unfold eCr at *; omega)) hP hD hS hl9
                                      · have c_210 : ¬ (par2 (eTg n X Y px.toInt py.toInt) i) := zp_0 c_210
                                        refine lv_iconst (v := 1) hx hb dX7_where_260 (by decide) ?_
                                        refine lv_goto (tgt := 265) hx hb dX7_where_261 (by decide) ?_
                                        refine lv_istore_n (lv' := [(3, .int 1), (6, .int (iI (eCr n X Y i px.toInt py.toInt))), (5, .int (nI (nxt n i))), (4, .int (nI i)), (0, .ref r), (1, .int px), (2, .int py)]) hx hb dX7_where_265 rfl hl (by decide) rfl (fun ls hl => ?_)
                                        refine lv_iinc (v := nI (i + 1)) (lv' := [(4, .int (nI (i + 1))), (3, .int 1), (6, .int (iI (eCr n X Y i px.toInt py.toInt))), (5, .int (nI (nxt n i))), (0, .ref r), (1, .int px), (2, .int py)]) hx hb dX7_where_266 hl (k := 3) rfl (nI_add i 1) (by decide) rfl (fun ls hl => ?_)
                                        refine lv_goto (tgt := 5) hx hb dX7_where_269 (by decide) ?_
                                        have hl9 := lv_sub hl [0, 1, 4, 5, 6] rfl
                                        have e9_3 : pI (par2 (eTg n X Y px.toInt py.toInt) (i + 1)) = (1 : Int32) := by first | exact zp_iff (par2_n (sk_tg (by omega)).1) | exact zp_iff (par2_n (by unfold eTg; omega)) | exact zp_t ((par2_y (by unfold eTg; omega)).mpr (by assumption)) | exact zp_f (fun q => (par2_y (by unfold eTg; omega)).mp q (by assumption))
                                        have hl9 : lv_has ls 7 [(4, .int (nI (i + 1))), (3, .int (pI (par2 (eTg n X Y px.toInt py.toInt) (i + 1)))), (0, .ref r), (1, .int px), (2, .int py)] := by rw [e9_3]; exact hl9
                                        exact ih_5 (i + 1) H locs ls (by omega) (by omega) (by intro k hk; rcases Nat.lt_or_ge k i with h | h; exact hno k h; have e9 : k = i := (by omega); subst e9; first | exact (sk_tg (by omega)).2 | (unfold eOn onS; unfold eCr at *; omega)) hP hD hS hl9
                          · have c_198 : py.toInt < (Y i).toInt := zc_nle rfl rfl c_198
                            refine lv_iconst (v := 1) hx hb dX7_where_197 (by decide) ?_
                            refine lv_goto (tgt := 202) hx hb dX7_where_198 (by decide) ?_
                            refine lv_aload_n hx hb dX7_where_202 rfl (lv_at hl 4 rfl) ?_
                            refine va_get (D := (dC, dI)) (ci := 6) (v := .ref ry) (C := RX7) (T := TX7) (N := 4) hx hb hts inX7 hown hK hP 0 rfl rfl 1 (by decide) (hts _ mw_168) (fun _ h9 => h9) rfl dX7_where_203 ?_
                            refine lv_iload hx hb dX7_where_206 (lv_at hl 1 rfl) ?_
                            refine z_iald hx hb hK hP 2 0 rfl rfl (e := nxt n i) rfl (by omega) (by omega) dX7_where_208 ?_
                            refine lv_iload_n hx hb dX7_where_209 rfl (lv_at hl 6 rfl) ?_
                            refine lv_icmp_le (tgt := 217) hx hb dX7_where_210 (by decide) (fun c_211 => ?_) (fun c_211 => ?_)
                            · have c_211 : (Y (nxt n i)).toInt ≤ py.toInt := zc_le rfl rfl c_211
                              refine lv_iconst (v := 0) hx hb dX7_where_217 (by decide) ?_
                              refine lv_icmp_eq (tgt := 266) hx hb dX7_where_218 (by decide) (fun c_212 => ?_) (fun c_212 => ?_)
                              · exact absurd c_212 (by decide)
                              · have c_212 : ¬ 1 = 0 := zc_ne (by decide) (by decide) c_212
                                refine lv_iload hx hb dX7_where_221 (lv_at hl 0 rfl) ?_
                                refine lv_if_le (tgt := 230) hx hb dX7_where_223 (by decide) (fun c_213 => ?_) (fun c_213 => ?_)
                                · have c_213 : (eCr n X Y i px.toInt py.toInt) ≤ 0 := zc_le (iI_toInt (by omega)) (by decide) c_213
                                  refine lv_iconst (v := 0) hx hb dX7_where_230 (by decide) ?_
                                  refine lv_aload_n hx hb dX7_where_231 rfl (lv_at hl 4 rfl) ?_
                                  refine va_get (D := (dC, dI)) (ci := 6) (v := .ref ry) (C := RX7) (T := TX7) (N := 4) hx hb hts inX7 hown hK hP 0 rfl rfl 1 (by decide) (hts _ mw_168) (fun _ h9 => h9) rfl dX7_where_232 ?_
                                  refine lv_iload hx hb dX7_where_235 (lv_at hl 1 rfl) ?_
                                  refine z_iald hx hb hK hP 2 0 rfl rfl (e := nxt n i) rfl (by omega) (by omega) dX7_where_237 ?_
                                  refine lv_aload_n hx hb dX7_where_238 rfl (lv_at hl 4 rfl) ?_
                                  refine va_get (D := (dC, dI)) (ci := 6) (v := .ref ry) (C := RX7) (T := TX7) (N := 4) hx hb hts inX7 hown hK hP 0 rfl rfl 1 (by decide) (hts _ mw_168) (fun _ h9 => h9) rfl dX7_where_239 ?_
                                  refine lv_iload hx hb dX7_where_242 (lv_at hl 2 rfl) ?_
                                  refine z_iald hx hb hK hP 2 0 rfl rfl (e := i) rfl (by omega) (by omega) dX7_where_244 ?_
                                  refine lv_icmp_le (tgt := 252) hx hb dX7_where_245 (by decide) (fun c_214 => ?_) (fun c_214 => ?_)
                                  · have c_214 : (Y (nxt n i)).toInt ≤ (Y i).toInt := zc_le rfl rfl c_214
                                    refine lv_iconst (v := 0) hx hb dX7_where_252 (by decide) ?_
                                    refine lv_icmp_ne (tgt := 266) hx hb dX7_where_253 (by decide) (fun c_215 => ?_) (fun c_215 => ?_)
                                    · exact absurd (by decide) c_215
                                    · have c_215 : 0 = 0 := zc_eq (by decide) (by decide) c_215
                                      refine lv_iload_n hx hb dX7_where_256 rfl (lv_at hl 3 rfl) ?_
                                      refine lv_if_ne (tgt := 264) hx hb dX7_where_257 (by decide) (fun c_216 => ?_) (fun c_216 => ?_)
                                      · have c_216 : par2 (eTg n X Y px.toInt py.toInt) i := zp_1 c_216
                                        refine lv_iconst (v := 0) hx hb dX7_where_264 (by decide) ?_
                                        refine lv_istore_n (lv' := [(3, .int 0), (6, .int (iI (eCr n X Y i px.toInt py.toInt))), (5, .int (nI (nxt n i))), (4, .int (nI i)), (0, .ref r), (1, .int px), (2, .int py)]) hx hb dX7_where_265 rfl hl (by decide) rfl (fun ls hl => ?_)
                                        refine lv_iinc (v := nI (i + 1)) (lv' := [(4, .int (nI (i + 1))), (3, .int 0), (6, .int (iI (eCr n X Y i px.toInt py.toInt))), (5, .int (nI (nxt n i))), (0, .ref r), (1, .int px), (2, .int py)]) hx hb dX7_where_266 hl (k := 3) rfl (nI_add i 1) (by decide) rfl (fun ls hl => ?_)
                                        refine lv_goto (tgt := 5) hx hb dX7_where_269 (by decide) ?_
                                        have hl9 := lv_sub hl [0, 1, 4, 5, 6] rfl
                                        have e9_3 : pI (par2 (eTg n X Y px.toInt py.toInt) (i + 1)) = (0 : Int32) := by first | exact zp_iff (par2_n (sk_tg (by omega)).1) | exact zp_iff (par2_n (by unfold eTg; omega)) | exact zp_t ((par2_y (by unfold eTg; omega)).mpr (by assumption)) | exact zp_f (fun q => (par2_y (by unfold eTg; omega)).mp q (by assumption))
                                        have hl9 : lv_has ls 7 [(4, .int (nI (i + 1))), (3, .int (pI (par2 (eTg n X Y px.toInt py.toInt) (i + 1)))), (0, .ref r), (1, .int px), (2, .int py)] := by rw [e9_3]; exact hl9
                                        exact ih_5 (i + 1) H locs ls (by omega) (by omega) (by intro k hk; rcases Nat.lt_or_ge k i with h | h; exact hno k h; have e9 : k = i := (by omega); subst e9; first | exact (sk_tg (by omega)).2 | (unfold eOn onS; unfold eCr at *; omega)) hP hD hS hl9
                                      · have c_216 : ¬ (par2 (eTg n X Y px.toInt py.toInt) i) := zp_0 c_216
                                        refine lv_iconst (v := 1) hx hb dX7_where_260 (by decide) ?_
                                        refine lv_goto (tgt := 265) hx hb dX7_where_261 (by decide) ?_
                                        refine lv_istore_n (lv' := [(3, .int 1), (6, .int (iI (eCr n X Y i px.toInt py.toInt))), (5, .int (nI (nxt n i))), (4, .int (nI i)), (0, .ref r), (1, .int px), (2, .int py)]) hx hb dX7_where_265 rfl hl (by decide) rfl (fun ls hl => ?_)
                                        refine lv_iinc (v := nI (i + 1)) (lv' := [(4, .int (nI (i + 1))), (3, .int 1), (6, .int (iI (eCr n X Y i px.toInt py.toInt))), (5, .int (nI (nxt n i))), (0, .ref r), (1, .int px), (2, .int py)]) hx hb dX7_where_266 hl (k := 3) rfl (nI_add i 1) (by decide) rfl (fun ls hl => ?_)
                                        refine lv_goto (tgt := 5) hx hb dX7_where_269 (by decide) ?_
                                        have hl9 := lv_sub hl [0, 1, 4, 5, 6] rfl
                                        have e9_3 : pI (par2 (eTg n X Y px.toInt py.toInt) (i + 1)) = (1 : Int32) := by first | exact zp_iff (par2_n (sk_tg (by omega)).1) | exact zp_iff (par2_n (by unfold eTg; omega)) | exact zp_t ((par2_y (by unfold eTg; omega)).mpr (by assumption)) | exact zp_f (fun q => (par2_y (by unfold eTg; omega)).mp q (by assumption))
                                        have hl9 : lv_has ls 7 [(4, .int (nI (i + 1))), (3, .int (pI (par2 (eTg n X Y px.toInt py.toInt) (i + 1)))), (0, .ref r), (1, .int px), (2, .int py)] := by rw [e9_3]; exact hl9
                                        exact ih_5 (i + 1) H locs ls (by omega) (by omega) (by intro k hk; rcases Nat.lt_or_ge k i with h | h; exact hno k h; have e9 : k = i := (by omega); subst e9; first | exact (sk_tg (by omega)).2 | (unfold eOn onS; unfold eCr at *; omega)) hP hD hS hl9
                                  · have c_214 : (Y i).toInt < (Y (nxt n i)).toInt := zc_nle rfl rfl c_214
                                    refine lv_iconst (v := 1) hx hb dX7_where_248 (by decide) ?_
                                    refine lv_goto (tgt := 253) hx hb dX7_where_249 (by decide) ?_
                                    refine lv_icmp_ne (tgt := 266) hx hb dX7_where_253 (by decide) (fun c_217 => ?_) (fun c_217 => ?_)
                                    · have c_217 : ¬ 0 = 1 := zc_ne (by decide) (by decide) c_217
                                      refine lv_iinc (v := nI (i + 1)) (lv' := [(4, .int (nI (i + 1))), (6, .int (iI (eCr n X Y i px.toInt py.toInt))), (5, .int (nI (nxt n i))), (3, .int (pI (par2 (eTg n X Y px.toInt py.toInt) i))), (0, .ref r), (1, .int px), (2, .int py)]) hx hb dX7_where_266 hl (k := 2) rfl (nI_add i 1) (by decide) rfl (fun ls hl => ?_)
                                      refine lv_goto (tgt := 5) hx hb dX7_where_269 (by decide) ?_
                                      have hl9 := lv_sub hl [0, 3, 4, 5, 6] rfl
                                      have e9_3 : pI (par2 (eTg n X Y px.toInt py.toInt) (i + 1)) = (pI (par2 (eTg n X Y px.toInt py.toInt) i) : Int32) := by first | exact zp_iff (par2_n (sk_tg (by omega)).1) | exact zp_iff (par2_n (by unfold eTg; omega)) | exact zp_t ((par2_y (by unfold eTg; omega)).mpr (by assumption)) | exact zp_f (fun q => (par2_y (by unfold eTg; omega)).mp q (by assumption))
                                      have hl9 : lv_has ls 7 [(4, .int (nI (i + 1))), (3, .int (pI (par2 (eTg n X Y px.toInt py.toInt) (i + 1)))), (0, .ref r), (1, .int px), (2, .int py)] := by rw [e9_3]; exact hl9
                                      exact ih_5 (i + 1) H locs ls (by omega) (by omega) (by intro k hk; rcases Nat.lt_or_ge k i with h | h; exact hno k h; have e9 : k = i := (by omega); subst e9; first | exact (sk_tg (by omega)).2 | (unfold eOn onS; unfold eCr at *; omega)) hP hD hS hl9
                                    · exact absurd c_217 (by decide)
                                · have c_213 : 0 < (eCr n X Y i px.toInt py.toInt) := zc_nle (iI_toInt (by omega)) (by decide) c_213
                                  refine lv_iconst (v := 1) hx hb dX7_where_226 (by decide) ?_
                                  refine lv_goto (tgt := 231) hx hb dX7_where_227 (by decide) ?_
                                  refine lv_aload_n hx hb dX7_where_231 rfl (lv_at hl 4 rfl) ?_
                                  refine va_get (D := (dC, dI)) (ci := 6) (v := .ref ry) (C := RX7) (T := TX7) (N := 4) hx hb hts inX7 hown hK hP 0 rfl rfl 1 (by decide) (hts _ mw_168) (fun _ h9 => h9) rfl dX7_where_232 ?_
                                  refine lv_iload hx hb dX7_where_235 (lv_at hl 1 rfl) ?_
                                  refine z_iald hx hb hK hP 2 0 rfl rfl (e := nxt n i) rfl (by omega) (by omega) dX7_where_237 ?_
                                  refine lv_aload_n hx hb dX7_where_238 rfl (lv_at hl 4 rfl) ?_
                                  refine va_get (D := (dC, dI)) (ci := 6) (v := .ref ry) (C := RX7) (T := TX7) (N := 4) hx hb hts inX7 hown hK hP 0 rfl rfl 1 (by decide) (hts _ mw_168) (fun _ h9 => h9) rfl dX7_where_239 ?_
                                  refine lv_iload hx hb dX7_where_242 (lv_at hl 2 rfl) ?_
                                  refine z_iald hx hb hK hP 2 0 rfl rfl (e := i) rfl (by omega) (by omega) dX7_where_244 ?_
                                  refine lv_icmp_le (tgt := 252) hx hb dX7_where_245 (by decide) (fun c_218 => ?_) (fun c_218 => ?_)
                                  · have c_218 : (Y (nxt n i)).toInt ≤ (Y i).toInt := zc_le rfl rfl c_218
                                    refine lv_iconst (v := 0) hx hb dX7_where_252 (by decide) ?_
                                    refine lv_icmp_ne (tgt := 266) hx hb dX7_where_253 (by decide) (fun c_219 => ?_) (fun c_219 => ?_)
                                    · have c_219 : ¬ 1 = 0 := zc_ne (by decide) (by decide) c_219
                                      refine lv_iinc (v := nI (i + 1)) (lv' := [(4, .int (nI (i + 1))), (6, .int (iI (eCr n X Y i px.toInt py.toInt))), (5, .int (nI (nxt n i))), (3, .int (pI (par2 (eTg n X Y px.toInt py.toInt) i))), (0, .ref r), (1, .int px), (2, .int py)]) hx hb dX7_where_266 hl (k := 2) rfl (nI_add i 1) (by decide) rfl (fun ls hl => ?_)
                                      refine lv_goto (tgt := 5) hx hb dX7_where_269 (by decide) ?_
                                      have hl9 := lv_sub hl [0, 3, 4, 5, 6] rfl
                                      have e9_3 : pI (par2 (eTg n X Y px.toInt py.toInt) (i + 1)) = (pI (par2 (eTg n X Y px.toInt py.toInt) i) : Int32) := by first | exact zp_iff (par2_n (sk_tg (by omega)).1) | exact zp_iff (par2_n (by unfold eTg; omega)) | exact zp_t ((par2_y (by unfold eTg; omega)).mpr (by assumption)) | exact zp_f (fun q => (par2_y (by unfold eTg; omega)).mp q (by assumption))
                                      have hl9 : lv_has ls 7 [(4, .int (nI (i + 1))), (3, .int (pI (par2 (eTg n X Y px.toInt py.toInt) (i + 1)))), (0, .ref r), (1, .int px), (2, .int py)] := by rw [e9_3]; exact hl9
                                      exact ih_5 (i + 1) H locs ls (by omega) (by omega) (by intro k hk; rcases Nat.lt_or_ge k i with h | h; exact hno k h; have e9 : k = i := (by omega); subst e9; first | exact (sk_tg (by omega)).2 | (unfold eOn onS; unfold eCr at *; omega)) hP hD hS hl9
                                    · exact absurd c_219 (by decide)
                                  · have c_218 : (Y i).toInt < (Y (nxt n i)).toInt := zc_nle rfl rfl c_218
                                    refine lv_iconst (v := 1) hx hb dX7_where_248 (by decide) ?_
                                    refine lv_goto (tgt := 253) hx hb dX7_where_249 (by decide) ?_
                                    refine lv_icmp_ne (tgt := 266) hx hb dX7_where_253 (by decide) (fun c_220 => ?_) (fun c_220 => ?_)
                                    · exact absurd (by decide) c_220
                                    · have c_220 : 1 = 1 := zc_eq (by decide) (by decide) c_220
                                      refine lv_iload_n hx hb dX7_where_256 rfl (lv_at hl 3 rfl) ?_
                                      refine lv_if_ne (tgt := 264) hx hb dX7_where_257 (by decide) (fun c_221 => ?_) (fun c_221 => ?_)
                                      · have c_221 : par2 (eTg n X Y px.toInt py.toInt) i := zp_1 c_221
                                        refine lv_iconst (v := 0) hx hb dX7_where_264 (by decide) ?_
                                        refine lv_istore_n (lv' := [(3, .int 0), (6, .int (iI (eCr n X Y i px.toInt py.toInt))), (5, .int (nI (nxt n i))), (4, .int (nI i)), (0, .ref r), (1, .int px), (2, .int py)]) hx hb dX7_where_265 rfl hl (by decide) rfl (fun ls hl => ?_)
                                        refine lv_iinc (v := nI (i + 1)) (lv' := [(4, .int (nI (i + 1))), (3, .int 0), (6, .int (iI (eCr n X Y i px.toInt py.toInt))), (5, .int (nI (nxt n i))), (0, .ref r), (1, .int px), (2, .int py)]) hx hb dX7_where_266 hl (k := 3) rfl (nI_add i 1) (by decide) rfl (fun ls hl => ?_)
                                        refine lv_goto (tgt := 5) hx hb dX7_where_269 (by decide) ?_
                                        have hl9 := lv_sub hl [0, 1, 4, 5, 6] rfl
                                        have e9_3 : pI (par2 (eTg n X Y px.toInt py.toInt) (i + 1)) = (0 : Int32) := by first | exact zp_iff (par2_n (sk_tg (by omega)).1) | exact zp_iff (par2_n (by unfold eTg; omega)) | exact zp_t ((par2_y (by unfold eTg; omega)).mpr (by assumption)) | exact zp_f (fun q => (par2_y (by unfold eTg; omega)).mp q (by assumption))
                                        have hl9 : lv_has ls 7 [(4, .int (nI (i + 1))), (3, .int (pI (par2 (eTg n X Y px.toInt py.toInt) (i + 1)))), (0, .ref r), (1, .int px), (2, .int py)] := by rw [e9_3]; exact hl9
                                        exact ih_5 (i + 1) H locs ls (by omega) (by omega) (by intro k hk; rcases Nat.lt_or_ge k i with h | h; exact hno k h; have e9 : k = i := (by omega); subst e9; first | exact (sk_tg (by omega)).2 | (unfold eOn onS; unfold eCr at *; omega)) hP hD hS hl9
                                      · have c_221 : ¬ (par2 (eTg n X Y px.toInt py.toInt) i) := zp_0 c_221
                                        refine lv_iconst (v := 1) hx hb dX7_where_260 (by decide) ?_
                                        refine lv_goto (tgt := 265) hx hb dX7_where_261 (by decide) ?_
                                        refine lv_istore_n (lv' := [(3, .int 1), (6, .int (iI (eCr n X Y i px.toInt py.toInt))), (5, .int (nI (nxt n i))), (4, .int (nI i)), (0, .ref r), (1, .int px), (2, .int py)]) hx hb dX7_where_265 rfl hl (by decide) rfl (fun ls hl => ?_)
                                        refine lv_iinc (v := nI (i + 1)) (lv' := [(4, .int (nI (i + 1))), (3, .int 1), (6, .int (iI (eCr n X Y i px.toInt py.toInt))), (5, .int (nI (nxt n i))), (0, .ref r), (1, .int px), (2, .int py)]) hx hb dX7_where_266 hl (k := 3) rfl (nI_add i 1) (by decide) rfl (fun ls hl => ?_)
                                        refine lv_goto (tgt := 5) hx hb dX7_where_269 (by decide) ?_
                                        have hl9 := lv_sub hl [0, 1, 4, 5, 6] rfl
                                        have e9_3 : pI (par2 (eTg n X Y px.toInt py.toInt) (i + 1)) = (1 : Int32) := by first | exact zp_iff (par2_n (sk_tg (by omega)).1) | exact zp_iff (par2_n (by unfold eTg; omega)) | exact zp_t ((par2_y (by unfold eTg; omega)).mpr (by assumption)) | exact zp_f (fun q => (par2_y (by unfold eTg; omega)).mp q (by assumption))
                                        have hl9 : lv_has ls 7 [(4, .int (nI (i + 1))), (3, .int (pI (par2 (eTg n X Y px.toInt py.toInt) (i + 1)))), (0, .ref r), (1, .int px), (2, .int py)] := by rw [e9_3]; exact hl9
                                        exact ih_5 (i + 1) H locs ls (by omega) (by omega) (by intro k hk; rcases Nat.lt_or_ge k i with h | h; exact hno k h; have e9 : k = i := (by omega); subst e9; first | exact (sk_tg (by omega)).2 | (unfold eOn onS; unfold eCr at *; omega)) hP hD hS hl9
                            · have c_211 : py.toInt < (Y (nxt n i)).toInt := zc_nle rfl rfl c_211
                              refine lv_iconst (v := 1) hx hb dX7_where_213 (by decide) ?_
                              refine lv_goto (tgt := 218) hx hb dX7_where_214 (by decide) ?_
                              refine lv_icmp_eq (tgt := 266) hx hb dX7_where_218 (by decide) (fun c_222 => ?_) (fun c_222 => ?_)
                              · have c_222 : 1 = 1 := zc_eq (by decide) (by decide) c_222
                                refine lv_iinc (v := nI (i + 1)) (lv' := [(4, .int (nI (i + 1))), (6, .int (iI (eCr n X Y i px.toInt py.toInt))), (5, .int (nI (nxt n i))), (3, .int (pI (par2 (eTg n X Y px.toInt py.toInt) i))), (0, .ref r), (1, .int px), (2, .int py)]) hx hb dX7_where_266 hl (k := 2) rfl (nI_add i 1) (by decide) rfl (fun ls hl => ?_)
                                refine lv_goto (tgt := 5) hx hb dX7_where_269 (by decide) ?_
                                have hl9 := lv_sub hl [0, 3, 4, 5, 6] rfl
                                have e9_3 : pI (par2 (eTg n X Y px.toInt py.toInt) (i + 1)) = (pI (par2 (eTg n X Y px.toInt py.toInt) i) : Int32) := by first | exact zp_iff (par2_n (sk_tg (by omega)).1) | exact zp_iff (par2_n (by unfold eTg; omega)) | exact zp_t ((par2_y (by unfold eTg; omega)).mpr (by assumption)) | exact zp_f (fun q => (par2_y (by unfold eTg; omega)).mp q (by assumption))
                                have hl9 : lv_has ls 7 [(4, .int (nI (i + 1))), (3, .int (pI (par2 (eTg n X Y px.toInt py.toInt) (i + 1)))), (0, .ref r), (1, .int px), (2, .int py)] := by rw [e9_3]; exact hl9
                                exact ih_5 (i + 1) H locs ls (by omega) (by omega) (by intro k hk; rcases Nat.lt_or_ge k i with h | h; exact hno k h; have e9 : k = i := (by omega); subst e9; first | exact (sk_tg (by omega)).2 | (unfold eOn onS; unfold eCr at *; omega)) hP hD hS hl9
                              · exact absurd (by decide) c_222
                        · have c_197 : (X (nxt n i)).toInt ≤ px.toInt := zc_nlt rfl rfl c_197
                          refine lv_iconst (v := 2) hx hb dX7_where_184 (by decide) ?_
                          have hP9 := hP.sub (ws' := [(r, .inr (6, [.ref rx, .ref ry, .int (nI n), .int rg])), (rx, .inl (cI, cap, .inl X)), (ry, .inl (cI, cap, .inl Y))]) [0, 1, 2] rfl
                          have hD9 := hD.sub (ws' := [(r, .inr (6, [.ref rx, .ref ry, .int (nI n), .int rg])), (rx, .inl (cI, cap, .inl X)), (ry, .inl (cI, cap, .inl Y))]) [0, 1, 2] (by decide) rfl
                          rw [hQ9]
                          exact W.iret (v := 2) hx hb hr (fun t ht hW => ⟨⟨congrArg (fun z => Outcome.returned (some (Value.int z))) (show (2 : Int32) = whr n X Y px.toInt py.toInt from (whr_2 ⟨i, by omega, by unfold eOn onS; unfold eCr at *; omega⟩).symm), by rw [ht]; exact hP9, hD9⟩, hS.F ht⟩) hS.2.2 dX7_where_185
                  · have c_169 : (X (nxt n i)).toInt < px.toInt := zc_nle rfl rfl c_169
                    refine lv_goto (tgt := 266) hx hb dX7_where_101 (by decide) ?_
                    refine lv_iinc (v := nI (i + 1)) (lv' := [(4, .int (nI (i + 1))), (5, .int (nI (nxt n i))), (3, .int (pI (par2 (eTg n X Y px.toInt py.toInt) i))), (0, .ref r), (1, .int px), (2, .int py)]) hx hb dX7_where_266 hl (k := 1) rfl (nI_add i 1) (by decide) rfl (fun ls hl => ?_)
                    refine lv_goto (tgt := 5) hx hb dX7_where_269 (by decide) ?_
                    have hl9 := lv_sub hl [0, 2, 3, 4, 5] rfl
                    have e9_3 : pI (par2 (eTg n X Y px.toInt py.toInt) (i + 1)) = (pI (par2 (eTg n X Y px.toInt py.toInt) i) : Int32) := by first | exact zp_iff (par2_n (sk_tg (by omega)).1) | exact zp_iff (par2_n (by unfold eTg; omega)) | exact zp_t ((par2_y (by unfold eTg; omega)).mpr (by assumption)) | exact zp_f (fun q => (par2_y (by unfold eTg; omega)).mp q (by assumption))
                    have hl9 : lv_has ls 7 [(4, .int (nI (i + 1))), (3, .int (pI (par2 (eTg n X Y px.toInt py.toInt) (i + 1)))), (0, .ref r), (1, .int px), (2, .int py)] := by rw [e9_3]; exact hl9
                    exact ih_5 (i + 1) H locs ls (by omega) (by omega) (by intro k hk; rcases Nat.lt_or_ge k i with h | h; exact hno k h; have e9 : k = i := (by omega); subst e9; first | exact (sk_tg (by omega)).2 | (unfold eOn onS; unfold eCr at *; omega)) hP hD hS hl9
          · have c_4 : py.toInt < (Y i).toInt := zc_nle rfl rfl c_4
            refine lv_aload_n hx hb dX7_where_46 rfl (lv_at hl 3 rfl) ?_
            refine va_get (D := (dC, dI)) (ci := 6) (v := .ref ry) (C := RX7) (T := TX7) (N := 4) hx hb hts inX7 hown hK hP 0 rfl rfl 1 (by decide) (hts _ mw_168) (fun _ h9 => h9) rfl dX7_where_47 ?_
            refine lv_iload hx hb dX7_where_50 (lv_at hl 0 rfl) ?_
            refine z_iald hx hb hK hP 2 0 rfl rfl (e := nxt n i) rfl (by omega) (by omega) dX7_where_52 ?_
            refine lv_iload_n hx hb dX7_where_53 rfl (lv_at hl 5 rfl) ?_
            refine lv_icmp_gt (tgt := 266) hx hb dX7_where_54 (by decide) (fun c_223 => ?_) (fun c_223 => ?_)
            · have c_223 : py.toInt < (Y (nxt n i)).toInt := zc_lt rfl rfl c_223
              refine lv_iinc (v := nI (i + 1)) (lv' := [(4, .int (nI (i + 1))), (5, .int (nI (nxt n i))), (3, .int (pI (par2 (eTg n X Y px.toInt py.toInt) i))), (0, .ref r), (1, .int px), (2, .int py)]) hx hb dX7_where_266 hl (k := 1) rfl (nI_add i 1) (by decide) rfl (fun ls hl => ?_)
              refine lv_goto (tgt := 5) hx hb dX7_where_269 (by decide) ?_
              have hl9 := lv_sub hl [0, 2, 3, 4, 5] rfl
              have e9_3 : pI (par2 (eTg n X Y px.toInt py.toInt) (i + 1)) = (pI (par2 (eTg n X Y px.toInt py.toInt) i) : Int32) := by first | exact zp_iff (par2_n (sk_tg (by omega)).1) | exact zp_iff (par2_n (by unfold eTg; omega)) | exact zp_t ((par2_y (by unfold eTg; omega)).mpr (by assumption)) | exact zp_f (fun q => (par2_y (by unfold eTg; omega)).mp q (by assumption))
              have hl9 : lv_has ls 7 [(4, .int (nI (i + 1))), (3, .int (pI (par2 (eTg n X Y px.toInt py.toInt) (i + 1)))), (0, .ref r), (1, .int px), (2, .int py)] := by rw [e9_3]; exact hl9
              exact ih_5 (i + 1) H locs ls (by omega) (by omega) (by intro k hk; rcases Nat.lt_or_ge k i with h | h; exact hno k h; have e9 : k = i := (by omega); subst e9; first | exact (sk_tg (by omega)).2 | (unfold eOn onS; unfold eCr at *; omega)) hP hD hS hl9
            · have c_223 : (Y (nxt n i)).toInt ≤ py.toInt := zc_nlt rfl rfl c_223
              refine lv_aload_n hx hb dX7_where_57 rfl (lv_at hl 3 rfl) ?_
              refine va_get (D := (dC, dI)) (ci := 6) (v := .ref ry) (C := RX7) (T := TX7) (N := 4) hx hb hts inX7 hown hK hP 0 rfl rfl 1 (by decide) (hts _ mw_168) (fun _ h9 => h9) rfl dX7_where_58 ?_
              refine lv_iload hx hb dX7_where_61 (lv_at hl 1 rfl) ?_
              refine z_iald hx hb hK hP 2 0 rfl rfl (e := i) rfl (by omega) (by omega) dX7_where_63 ?_
              refine lv_iload_n hx hb dX7_where_64 rfl (lv_at hl 5 rfl) ?_
              refine lv_icmp_ge (tgt := 79) hx hb dX7_where_65 (by decide) (fun c_224 => ?_) (fun c_224 => ?_)
              · have c_224 : py.toInt ≤ (Y i).toInt := zc_le rfl rfl c_224
                refine lv_aload_n hx hb dX7_where_79 rfl (lv_at hl 3 rfl) ?_
                refine va_get (D := (dC, dI)) (ci := 6) (v := .ref rx) (C := RX7) (T := TX7) (N := 4) hx hb hts inX7 hown hK hP 0 rfl rfl 0 (by decide) (hts _ mw_161) (fun _ h9 => h9) rfl dX7_where_80 ?_
                refine lv_iload hx hb dX7_where_83 (lv_at hl 1 rfl) ?_
                refine z_iald hx hb hK hP 1 0 rfl rfl (e := i) rfl (by omega) (by omega) dX7_where_85 ?_
                refine lv_iload_n hx hb dX7_where_86 rfl (lv_at hl 4 rfl) ?_
                refine lv_icmp_ge (tgt := 104) hx hb dX7_where_87 (by decide) (fun c_225 => ?_) (fun c_225 => ?_)
                · have c_225 : px.toInt ≤ (X i).toInt := zc_le rfl rfl c_225
                  refine lv_aload_n hx hb dX7_where_104 rfl (lv_at hl 3 rfl) ?_
                  refine va_get (D := (dC, dI)) (ci := 6) (v := .ref rx) (C := RX7) (T := TX7) (N := 4) hx hb hts inX7 hown hK hP 0 rfl rfl 0 (by decide) (hts _ mw_161) (fun _ h9 => h9) rfl dX7_where_105 ?_
                  refine lv_iload hx hb dX7_where_108 (lv_at hl 0 rfl) ?_
                  refine z_iald hx hb hK hP 1 0 rfl rfl (e := nxt n i) rfl (by omega) (by omega) dX7_where_110 ?_
                  refine lv_aload_n hx hb dX7_where_111 rfl (lv_at hl 3 rfl) ?_
                  refine va_get (D := (dC, dI)) (ci := 6) (v := .ref rx) (C := RX7) (T := TX7) (N := 4) hx hb hts inX7 hown hK hP 0 rfl rfl 0 (by decide) (hts _ mw_161) (fun _ h9 => h9) rfl dX7_where_112 ?_
                  refine lv_iload hx hb dX7_where_115 (lv_at hl 1 rfl) ?_
                  refine z_iald hx hb hK hP 1 0 rfl rfl (e := i) rfl (by omega) (by omega) dX7_where_117 ?_
                  refine lv_isub hx hb dX7_where_118 ?_
                  refine lv_iload_n hx hb dX7_where_119 rfl (lv_at hl 5 rfl) ?_
                  refine lv_aload_n hx hb dX7_where_120 rfl (lv_at hl 3 rfl) ?_
                  refine va_get (D := (dC, dI)) (ci := 6) (v := .ref ry) (C := RX7) (T := TX7) (N := 4) hx hb hts inX7 hown hK hP 0 rfl rfl 1 (by decide) (hts _ mw_168) (fun _ h9 => h9) rfl dX7_where_121 ?_
                  refine lv_iload hx hb dX7_where_124 (lv_at hl 1 rfl) ?_
                  refine z_iald hx hb hK hP 2 0 rfl rfl (e := i) rfl (by omega) (by omega) dX7_where_126 ?_
                  refine lv_isub hx hb dX7_where_127 ?_
                  refine lv_imul hx hb dX7_where_128 ?_
                  refine lv_aload_n hx hb dX7_where_129 rfl (lv_at hl 3 rfl) ?_
                  refine va_get (D := (dC, dI)) (ci := 6) (v := .ref ry) (C := RX7) (T := TX7) (N := 4) hx hb hts inX7 hown hK hP 0 rfl rfl 1 (by decide) (hts _ mw_168) (fun _ h9 => h9) rfl dX7_where_130 ?_
                  refine lv_iload hx hb dX7_where_133 (lv_at hl 0 rfl) ?_
                  refine z_iald hx hb hK hP 2 0 rfl rfl (e := nxt n i) rfl (by omega) (by omega) dX7_where_135 ?_
                  refine lv_aload_n hx hb dX7_where_136 rfl (lv_at hl 3 rfl) ?_
                  refine va_get (D := (dC, dI)) (ci := 6) (v := .ref ry) (C := RX7) (T := TX7) (N := 4) hx hb hts inX7 hown hK hP 0 rfl rfl 1 (by decide) (hts _ mw_168) (fun _ h9 => h9) rfl dX7_where_137 ?_
                  refine lv_iload hx hb dX7_where_140 (lv_at hl 1 rfl) ?_
                  refine z_iald hx hb hK hP 2 0 rfl rfl (e := i) rfl (by omega) (by omega) dX7_where_142 ?_
                  refine lv_isub hx hb dX7_where_143 ?_
                  refine lv_iload_n hx hb dX7_where_144 rfl (lv_at hl 4 rfl) ?_
                  refine lv_aload_n hx hb dX7_where_145 rfl (lv_at hl 3 rfl) ?_
                  refine va_get (D := (dC, dI)) (ci := 6) (v := .ref rx) (C := RX7) (T := TX7) (N := 4) hx hb hts inX7 hown hK hP 0 rfl rfl 0 (by decide) (hts _ mw_161) (fun _ h9 => h9) rfl dX7_where_146 ?_
                  refine lv_iload hx hb dX7_where_149 (lv_at hl 1 rfl) ?_
                  refine z_iald hx hb hK hP 1 0 rfl rfl (e := i) rfl (by omega) (by omega) dX7_where_151 ?_
                  refine lv_isub hx hb dX7_where_152 ?_
                  refine lv_imul hx hb dX7_where_153 ?_
                  refine lv_isub hx hb dX7_where_154 ?_
                  refine zz_i (v := iI (eCr n X Y i px.toInt py.toInt)) (crI (hp i (by omega)).1 (hp i (by omega)).2 (hp _ hnx).1 (hp _ hnx).2 hpx hpy) ?_
                  have hB1 := crBp (hp i (by omega)).1 (hp i (by omega)).2 (hp _ hnx).1 (hp _ hnx).2 hpx hpy
                  have hB1 : -2000000 ≤ eCr n X Y i px.toInt py.toInt ∧ eCr n X Y i px.toInt py.toInt ≤ 2000000 := hB1
                  refine lv_istore (lv' := [(6, .int (iI (eCr n X Y i px.toInt py.toInt))), (5, .int (nI (nxt n i))), (4, .int (nI i)), (3, .int (pI (par2 (eTg n X Y px.toInt py.toInt) i))), (0, .ref r), (1, .int px), (2, .int py)]) hx hb dX7_where_155 hl (by decide) rfl (fun ls hl => ?_)
                  refine lv_iload hx hb dX7_where_157 (lv_at hl 0 rfl) ?_
                  refine lv_if_ne (tgt := 186) hx hb dX7_where_159 (by decide) (fun c_226 => ?_) (fun c_226 => ?_)
                  · have c_226 : ¬ (eCr n X Y i px.toInt py.toInt) = 0 := zc_ne (iI_toInt (by omega)) (by decide) c_226
                    refine lv_aload_n hx hb dX7_where_186 rfl (lv_at hl 4 rfl) ?_
                    refine va_get (D := (dC, dI)) (ci := 6) (v := .ref ry) (C := RX7) (T := TX7) (N := 4) hx hb hts inX7 hown hK hP 0 rfl rfl 1 (by decide) (hts _ mw_168) (fun _ h9 => h9) rfl dX7_where_187 ?_
                    refine lv_iload hx hb dX7_where_190 (lv_at hl 2 rfl) ?_
                    refine z_iald hx hb hK hP 2 0 rfl rfl (e := i) rfl (by omega) (by omega) dX7_where_192 ?_
                    refine lv_iload_n hx hb dX7_where_193 rfl (lv_at hl 6 rfl) ?_
                    refine lv_icmp_le (tgt := 201) hx hb dX7_where_194 (by decide) (fun c_227 => ?_) (fun c_227 => ?_)
                    · have c_227 : (Y i).toInt ≤ py.toInt := zc_le rfl rfl c_227
                      refine lv_iconst (v := 0) hx hb dX7_where_201 (by decide) ?_
                      refine lv_aload_n hx hb dX7_where_202 rfl (lv_at hl 4 rfl) ?_
                      refine va_get (D := (dC, dI)) (ci := 6) (v := .ref ry) (C := RX7) (T := TX7) (N := 4) hx hb hts inX7 hown hK hP 0 rfl rfl 1 (by decide) (hts _ mw_168) (fun _ h9 => h9) rfl dX7_where_203 ?_
                      refine lv_iload hx hb dX7_where_206 (lv_at hl 1 rfl) ?_
                      refine z_iald hx hb hK hP 2 0 rfl rfl (e := nxt n i) rfl (by omega) (by omega) dX7_where_208 ?_
                      refine lv_iload_n hx hb dX7_where_209 rfl (lv_at hl 6 rfl) ?_
                      refine lv_icmp_le (tgt := 217) hx hb dX7_where_210 (by decide) (fun c_228 => ?_) (fun c_228 => ?_)
                      · have c_228 : (Y (nxt n i)).toInt ≤ py.toInt := zc_le rfl rfl c_228
                        refine lv_iconst (v := 0) hx hb dX7_where_217 (by decide) ?_
                        refine lv_icmp_eq (tgt := 266) hx hb dX7_where_218 (by decide) (fun c_229 => ?_) (fun c_229 => ?_)
                        · have c_229 : 0 = 0 := zc_eq (by decide) (by decide) c_229
                          refine lv_iinc (v := nI (i + 1)) (lv' := [(4, .int (nI (i + 1))), (6, .int (iI (eCr n X Y i px.toInt py.toInt))), (5, .int (nI (nxt n i))), (3, .int (pI (par2 (eTg n X Y px.toInt py.toInt) i))), (0, .ref r), (1, .int px), (2, .int py)]) hx hb dX7_where_266 hl (k := 2) rfl (nI_add i 1) (by decide) rfl (fun ls hl => ?_)
                          refine lv_goto (tgt := 5) hx hb dX7_where_269 (by decide) ?_
                          have hl9 := lv_sub hl [0, 3, 4, 5, 6] rfl
                          have e9_3 : pI (par2 (eTg n X Y px.toInt py.toInt) (i + 1)) = (pI (par2 (eTg n X Y px.toInt py.toInt) i) : Int32) := by first | exact zp_iff (par2_n (sk_tg (by omega)).1) | exact zp_iff (par2_n (by unfold eTg; omega)) | exact zp_t ((par2_y (by unfold eTg; omega)).mpr (by assumption)) | exact zp_f (fun q => (par2_y (by unfold eTg; omega)).mp q (by assumption))
                          have hl9 : lv_has ls 7 [(4, .int (nI (i + 1))), (3, .int (pI (par2 (eTg n X Y px.toInt py.toInt) (i + 1)))), (0, .ref r), (1, .int px), (2, .int py)] := by rw [e9_3]; exact hl9
                          exact ih_5 (i + 1) H locs ls (by omega) (by omega) (by intro k hk; rcases Nat.lt_or_ge k i with h | h; exact hno k h; have e9 : k = i := (by omega); subst e9; first | exact (sk_tg (by omega)).2 | (unfold eOn onS; unfold eCr at *; omega)) hP hD hS hl9
                        · exact absurd (by decide) c_229
                      · have c_228 : py.toInt < (Y (nxt n i)).toInt := zc_nle rfl rfl c_228
                        refine lv_iconst (v := 1) hx hb dX7_where_213 (by decide) ?_
                        refine lv_goto (tgt := 218) hx hb dX7_where_214 (by decide) ?_
                        refine lv_icmp_eq (tgt := 266) hx hb dX7_where_218 (by decide) (fun c_230 => ?_) (fun c_230 => ?_)
                        · exact absurd c_230 (by decide)
                        · have c_230 : ¬ 0 = 1 := zc_ne (by decide) (by decide) c_230
                          refine lv_iload hx hb dX7_where_221 (lv_at hl 0 rfl) ?_
                          refine lv_if_le (tgt := 230) hx hb dX7_where_223 (by decide) (fun c_231 => ?_) (fun c_231 => ?_)
                          · have c_231 : (eCr n X Y i px.toInt py.toInt) ≤ 0 := zc_le (iI_toInt (by omega)) (by decide) c_231
                            refine lv_iconst (v := 0) hx hb dX7_where_230 (by decide) ?_
                            refine lv_aload_n hx hb dX7_where_231 rfl (lv_at hl 4 rfl) ?_
                            refine va_get (D := (dC, dI)) (ci := 6) (v := .ref ry) (C := RX7) (T := TX7) (N := 4) hx hb hts inX7 hown hK hP 0 rfl rfl 1 (by decide) (hts _ mw_168) (fun _ h9 => h9) rfl dX7_where_232 ?_
                            refine lv_iload hx hb dX7_where_235 (lv_at hl 1 rfl) ?_
                            refine z_iald hx hb hK hP 2 0 rfl rfl (e := nxt n i) rfl (by omega) (by omega) dX7_where_237 ?_
                            refine lv_aload_n hx hb dX7_where_238 rfl (lv_at hl 4 rfl) ?_
                            refine va_get (D := (dC, dI)) (ci := 6) (v := .ref ry) (C := RX7) (T := TX7) (N := 4) hx hb hts inX7 hown hK hP 0 rfl rfl 1 (by decide) (hts _ mw_168) (fun _ h9 => h9) rfl dX7_where_239 ?_
                            refine lv_iload hx hb dX7_where_242 (lv_at hl 2 rfl) ?_
                            refine z_iald hx hb hK hP 2 0 rfl rfl (e := i) rfl (by omega) (by omega) dX7_where_244 ?_
                            refine lv_icmp_le (tgt := 252) hx hb dX7_where_245 (by decide) (fun c_232 => ?_) (fun c_232 => ?_)
                            · have c_232 : (Y (nxt n i)).toInt ≤ (Y i).toInt := zc_le rfl rfl c_232
                              refine lv_iconst (v := 0) hx hb dX7_where_252 (by decide) ?_
                              refine lv_icmp_ne (tgt := 266) hx hb dX7_where_253 (by decide) (fun c_233 => ?_) (fun c_233 => ?_)
                              · exact absurd (by decide) c_233
                              · have c_233 : 0 = 0 := zc_eq (by decide) (by decide) c_233
                                refine lv_iload_n hx hb dX7_where_256 rfl (lv_at hl 3 rfl) ?_
                                refine lv_if_ne (tgt := 264) hx hb dX7_where_257 (by decide) (fun c_234 => ?_) (fun c_234 => ?_)
                                · have c_234 : par2 (eTg n X Y px.toInt py.toInt) i := zp_1 c_234
                                  refine lv_iconst (v := 0) hx hb dX7_where_264 (by decide) ?_
                                  refine lv_istore_n (lv' := [(3, .int 0), (6, .int (iI (eCr n X Y i px.toInt py.toInt))), (5, .int (nI (nxt n i))), (4, .int (nI i)), (0, .ref r), (1, .int px), (2, .int py)]) hx hb dX7_where_265 rfl hl (by decide) rfl (fun ls hl => ?_)
                                  refine lv_iinc (v := nI (i + 1)) (lv' := [(4, .int (nI (i + 1))), (3, .int 0), (6, .int (iI (eCr n X Y i px.toInt py.toInt))), (5, .int (nI (nxt n i))), (0, .ref r), (1, .int px), (2, .int py)]) hx hb dX7_where_266 hl (k := 3) rfl (nI_add i 1) (by decide) rfl (fun ls hl => ?_)
                                  refine lv_goto (tgt := 5) hx hb dX7_where_269 (by decide) ?_
                                  have hl9 := lv_sub hl [0, 1, 4, 5, 6] rfl
                                  have e9_3 : pI (par2 (eTg n X Y px.toInt py.toInt) (i + 1)) = (0 : Int32) := by first | exact zp_iff (par2_n (sk_tg (by omega)).1) | exact zp_iff (par2_n (by unfold eTg; omega)) | exact zp_t ((par2_y (by unfold eTg; omega)).mpr (by assumption)) | exact zp_f (fun q => (par2_y (by unfold eTg; omega)).mp q (by assumption))
                                  have hl9 : lv_has ls 7 [(4, .int (nI (i + 1))), (3, .int (pI (par2 (eTg n X Y px.toInt py.toInt) (i + 1)))), (0, .ref r), (1, .int px), (2, .int py)] := by rw [e9_3]; exact hl9
                                  exact ih_5 (i + 1) H locs ls (by omega) (by omega) (by intro k hk; rcases Nat.lt_or_ge k i with h | h; exact hno k h; have e9 : k = i := (by omega); subst e9; first | exact (sk_tg (by omega)).2 | (unfold eOn onS; unfold eCr at *; omega)) hP hD hS hl9
                                · have c_234 : ¬ (par2 (eTg n X Y px.toInt py.toInt) i) := zp_0 c_234
                                  refine lv_iconst (v := 1) hx hb dX7_where_260 (by decide) ?_
                                  refine lv_goto (tgt := 265) hx hb dX7_where_261 (by decide) ?_
                                  refine lv_istore_n (lv' := [(3, .int 1), (6, .int (iI (eCr n X Y i px.toInt py.toInt))), (5, .int (nI (nxt n i))), (4, .int (nI i)), (0, .ref r), (1, .int px), (2, .int py)]) hx hb dX7_where_265 rfl hl (by decide) rfl (fun ls hl => ?_)
                                  refine lv_iinc (v := nI (i + 1)) (lv' := [(4, .int (nI (i + 1))), (3, .int 1), (6, .int (iI (eCr n X Y i px.toInt py.toInt))), (5, .int (nI (nxt n i))), (0, .ref r), (1, .int px), (2, .int py)]) hx hb dX7_where_266 hl (k := 3) rfl (nI_add i 1) (by decide) rfl (fun ls hl => ?_)
                                  refine lv_goto (tgt := 5) hx hb dX7_where_269 (by decide) ?_
                                  have hl9 := lv_sub hl [0, 1, 4, 5, 6] rfl
                                  have e9_3 : pI (par2 (eTg n X Y px.toInt py.toInt) (i + 1)) = (1 : Int32) := by first | exact zp_iff (par2_n (sk_tg (by omega)).1) | exact zp_iff (par2_n (by unfold eTg; omega)) | exact zp_t ((par2_y (by unfold eTg; omega)).mpr (by assumption)) | exact zp_f (fun q => (par2_y (by unfold eTg; omega)).mp q (by assumption))
                                  have hl9 : lv_has ls 7 [(4, .int (nI (i + 1))), (3, .int (pI (par2 (eTg n X Y px.toInt py.toInt) (i + 1)))), (0, .ref r), (1, .int px), (2, .int py)] := by rw [e9_3]; exact hl9
                                  exact ih_5 (i + 1) H locs ls (by omega) (by omega) (by intro k hk; rcases Nat.lt_or_ge k i with h | h; exact hno k h; have e9 : k = i := (by omega); subst e9; first | exact (sk_tg (by omega)).2 | (unfold eOn onS; unfold eCr at *; omega)) hP hD hS hl9
                            · have c_232 : (Y i).toInt < (Y (nxt n i)).toInt := zc_nle rfl rfl c_232
                              refine lv_iconst (v := 1) hx hb dX7_where_248 (by decide) ?_
                              refine lv_goto (tgt := 253) hx hb dX7_where_249 (by decide) ?_
                              refine lv_icmp_ne (tgt := 266) hx hb dX7_where_253 (by decide) (fun c_235 => ?_) (fun c_235 => ?_)
                              · have c_235 : ¬ 0 = 1 := zc_ne (by decide) (by decide) c_235
                                refine lv_iinc (v := nI (i + 1)) (lv' := [(4, .int (nI (i + 1))), (6, .int (iI (eCr n X Y i px.toInt py.toInt))), (5, .int (nI (nxt n i))), (3, .int (pI (par2 (eTg n X Y px.toInt py.toInt) i))), (0, .ref r), (1, .int px), (2, .int py)]) hx hb dX7_where_266 hl (k := 2) rfl (nI_add i 1) (by decide) rfl (fun ls hl => ?_)
                                refine lv_goto (tgt := 5) hx hb dX7_where_269 (by decide) ?_
                                have hl9 := lv_sub hl [0, 3, 4, 5, 6] rfl
                                have e9_3 : pI (par2 (eTg n X Y px.toInt py.toInt) (i + 1)) = (pI (par2 (eTg n X Y px.toInt py.toInt) i) : Int32) := by first | exact zp_iff (par2_n (sk_tg (by omega)).1) | exact zp_iff (par2_n (by unfold eTg; omega)) | exact zp_t ((par2_y (by unfold eTg; omega)).mpr (by assumption)) | exact zp_f (fun q => (par2_y (by unfold eTg; omega)).mp q (by assumption))
                                have hl9 : lv_has ls 7 [(4, .int (nI (i + 1))), (3, .int (pI (par2 (eTg n X Y px.toInt py.toInt) (i + 1)))), (0, .ref r), (1, .int px), (2, .int py)] := by rw [e9_3]; exact hl9
                                exact ih_5 (i + 1) H locs ls (by omega) (by omega) (by intro k hk; rcases Nat.lt_or_ge k i with h | h; exact hno k h; have e9 : k = i := (by omega); subst e9; first | exact (sk_tg (by omega)).2 | (unfold eOn onS; unfold eCr at *; omega)) hP hD hS hl9
                              · exact absurd c_235 (by decide)
                          · have c_231 : 0 < (eCr n X Y i px.toInt py.toInt) := zc_nle (iI_toInt (by omega)) (by decide) c_231
                            refine lv_iconst (v := 1) hx hb dX7_where_226 (by decide) ?_
                            refine lv_goto (tgt := 231) hx hb dX7_where_227 (by decide) ?_
                            refine lv_aload_n hx hb dX7_where_231 rfl (lv_at hl 4 rfl) ?_
                            refine va_get (D := (dC, dI)) (ci := 6) (v := .ref ry) (C := RX7) (T := TX7) (N := 4) hx hb hts inX7 hown hK hP 0 rfl rfl 1 (by decide) (hts _ mw_168) (fun _ h9 => h9) rfl dX7_where_232 ?_
                            refine lv_iload hx hb dX7_where_235 (lv_at hl 1 rfl) ?_
                            refine z_iald hx hb hK hP 2 0 rfl rfl (e := nxt n i) rfl (by omega) (by omega) dX7_where_237 ?_
                            refine lv_aload_n hx hb dX7_where_238 rfl (lv_at hl 4 rfl) ?_
                            refine va_get (D := (dC, dI)) (ci := 6) (v := .ref ry) (C := RX7) (T := TX7) (N := 4) hx hb hts inX7 hown hK hP 0 rfl rfl 1 (by decide) (hts _ mw_168) (fun _ h9 => h9) rfl dX7_where_239 ?_
                            refine lv_iload hx hb dX7_where_242 (lv_at hl 2 rfl) ?_
                            refine z_iald hx hb hK hP 2 0 rfl rfl (e := i) rfl (by omega) (by omega) dX7_where_244 ?_
                            refine lv_icmp_le (tgt := 252) hx hb dX7_where_245 (by decide) (fun c_236 => ?_) (fun c_236 => ?_)
                            · have c_236 : (Y (nxt n i)).toInt ≤ (Y i).toInt := zc_le rfl rfl c_236
                              refine lv_iconst (v := 0) hx hb dX7_where_252 (by decide) ?_
                              refine lv_icmp_ne (tgt := 266) hx hb dX7_where_253 (by decide) (fun c_237 => ?_) (fun c_237 => ?_)
                              · have c_237 : ¬ 1 = 0 := zc_ne (by decide) (by decide) c_237
                                refine lv_iinc (v := nI (i + 1)) (lv' := [(4, .int (nI (i + 1))), (6, .int (iI (eCr n X Y i px.toInt py.toInt))), (5, .int (nI (nxt n i))), (3, .int (pI (par2 (eTg n X Y px.toInt py.toInt) i))), (0, .ref r), (1, .int px), (2, .int py)]) hx hb dX7_where_266 hl (k := 2) rfl (nI_add i 1) (by decide) rfl (fun ls hl => ?_)
                                refine lv_goto (tgt := 5) hx hb dX7_where_269 (by decide) ?_
                                have hl9 := lv_sub hl [0, 3, 4, 5, 6] rfl
                                have e9_3 : pI (par2 (eTg n X Y px.toInt py.toInt) (i + 1)) = (pI (par2 (eTg n X Y px.toInt py.toInt) i) : Int32) := by first | exact zp_iff (par2_n (sk_tg (by omega)).1) | exact zp_iff (par2_n (by unfold eTg; omega)) | exact zp_t ((par2_y (by unfold eTg; omega)).mpr (by assumption)) | exact zp_f (fun q => (par2_y (by unfold eTg; omega)).mp q (by assumption))
                                have hl9 : lv_has ls 7 [(4, .int (nI (i + 1))), (3, .int (pI (par2 (eTg n X Y px.toInt py.toInt) (i + 1)))), (0, .ref r), (1, .int px), (2, .int py)] := by rw [e9_3]; exact hl9
                                exact ih_5 (i + 1) H locs ls (by omega) (by omega) (by intro k hk; rcases Nat.lt_or_ge k i with h | h; exact hno k h; have e9 : k = i := (by omega); subst e9; first | exact (sk_tg (by omega)).2 | (unfold eOn onS; unfold eCr at *; omega)) hP hD hS hl9
                              · exact absurd c_237 (by decide)
                            · have c_236 : (Y i).toInt < (Y (nxt n i)).toInt := zc_nle rfl rfl c_236
                              refine lv_iconst (v := 1) hx hb dX7_where_248 (by decide) ?_
                              refine lv_goto (tgt := 253) hx hb dX7_where_249 (by decide) ?_
                              refine lv_icmp_ne (tgt := 266) hx hb dX7_where_253 (by decide) (fun c_238 => ?_) (fun c_238 => ?_)
                              · exact absurd (by decide) c_238
                              · have c_238 : 1 = 1 := zc_eq (by decide) (by decide) c_238
                                refine lv_iload_n hx hb dX7_where_256 rfl (lv_at hl 3 rfl) ?_
                                refine lv_if_ne (tgt := 264) hx hb dX7_where_257 (by decide) (fun c_239 => ?_) (fun c_239 => ?_)
                                · have c_239 : par2 (eTg n X Y px.toInt py.toInt) i := zp_1 c_239
                                  refine lv_iconst (v := 0) hx hb dX7_where_264 (by decide) ?_
                                  refine lv_istore_n (lv' := [(3, .int 0), (6, .int (iI (eCr n X Y i px.toInt py.toInt))), (5, .int (nI (nxt n i))), (4, .int (nI i)), (0, .ref r), (1, .int px), (2, .int py)]) hx hb dX7_where_265 rfl hl (by decide) rfl (fun ls hl => ?_)
                                  refine lv_iinc (v := nI (i + 1)) (lv' := [(4, .int (nI (i + 1))), (3, .int 0), (6, .int (iI (eCr n X Y i px.toInt py.toInt))), (5, .int (nI (nxt n i))), (0, .ref r), (1, .int px), (2, .int py)]) hx hb dX7_where_266 hl (k := 3) rfl (nI_add i 1) (by decide) rfl (fun ls hl => ?_)
                                  refine lv_goto (tgt := 5) hx hb dX7_where_269 (by decide) ?_
                                  have hl9 := lv_sub hl [0, 1, 4, 5, 6] rfl
                                  have e9_3 : pI (par2 (eTg n X Y px.toInt py.toInt) (i + 1)) = (0 : Int32) := by first | exact zp_iff (par2_n (sk_tg (by omega)).1) | exact zp_iff (par2_n (by unfold eTg; omega)) | exact zp_t ((par2_y (by unfold eTg; omega)).mpr (by assumption)) | exact zp_f (fun q => (par2_y (by unfold eTg; omega)).mp q (by assumption))
                                  have hl9 : lv_has ls 7 [(4, .int (nI (i + 1))), (3, .int (pI (par2 (eTg n X Y px.toInt py.toInt) (i + 1)))), (0, .ref r), (1, .int px), (2, .int py)] := by rw [e9_3]; exact hl9
                                  exact ih_5 (i + 1) H locs ls (by omega) (by omega) (by intro k hk; rcases Nat.lt_or_ge k i with h | h; exact hno k h; have e9 : k = i := (by omega); subst e9; first | exact (sk_tg (by omega)).2 | (unfold eOn onS; unfold eCr at *; omega)) hP hD hS hl9
                                · have c_239 : ¬ (par2 (eTg n X Y px.toInt py.toInt) i) := zp_0 c_239
                                  refine lv_iconst (v := 1) hx hb dX7_where_260 (by decide) ?_
                                  refine lv_goto (tgt := 265) hx hb dX7_where_261 (by decide) ?_
                                  refine lv_istore_n (lv' := [(3, .int 1), (6, .int (iI (eCr n X Y i px.toInt py.toInt))), (5, .int (nI (nxt n i))), (4, .int (nI i)), (0, .ref r), (1, .int px), (2, .int py)]) hx hb dX7_where_265 rfl hl (by decide) rfl (fun ls hl => ?_)
                                  refine lv_iinc (v := nI (i + 1)) (lv' := [(4, .int (nI (i + 1))), (3, .int 1), (6, .int (iI (eCr n X Y i px.toInt py.toInt))), (5, .int (nI (nxt n i))), (0, .ref r), (1, .int px), (2, .int py)]) hx hb dX7_where_266 hl (k := 3) rfl (nI_add i 1) (by decide) rfl (fun ls hl => ?_)
                                  refine lv_goto (tgt := 5) hx hb dX7_where_269 (by decide) ?_
                                  have hl9 := lv_sub hl [0, 1, 4, 5, 6] rfl
                                  have e9_3 : pI (par2 (eTg n X Y px.toInt py.toInt) (i + 1)) = (1 : Int32) := by first | exact zp_iff (par2_n (sk_tg (by omega)).1) | exact zp_iff (par2_n (by unfold eTg; omega)) | exact zp_t ((par2_y (by unfold eTg; omega)).mpr (by assumption)) | exact zp_f (fun q => (par2_y (by unfold eTg; omega)).mp q (by assumption))
                                  have hl9 : lv_has ls 7 [(4, .int (nI (i + 1))), (3, .int (pI (par2 (eTg n X Y px.toInt py.toInt) (i + 1)))), (0, .ref r), (1, .int px), (2, .int py)] := by rw [e9_3]; exact hl9
                                  exact ih_5 (i + 1) H locs ls (by omega) (by omega) (by intro k hk; rcases Nat.lt_or_ge k i with h | h; exact hno k h; have e9 : k = i := (by omega); subst e9; first | exact (sk_tg (by omega)).2 | (unfold eOn onS; unfold eCr at *; omega)) hP hD hS hl9
                    · have c_227 : py.toInt < (Y i).toInt := zc_nle rfl rfl c_227
                      refine lv_iconst (v := 1) hx hb dX7_where_197 (by decide) ?_
                      refine lv_goto (tgt := 202) hx hb dX7_where_198 (by decide) ?_
                      refine lv_aload_n hx hb dX7_where_202 rfl (lv_at hl 4 rfl) ?_
                      refine va_get (D := (dC, dI)) (ci := 6) (v := .ref ry) (C := RX7) (T := TX7) (N := 4) hx hb hts inX7 hown hK hP 0 rfl rfl 1 (by decide) (hts _ mw_168) (fun _ h9 => h9) rfl dX7_where_203 ?_
                      refine lv_iload hx hb dX7_where_206 (lv_at hl 1 rfl) ?_
                      refine z_iald hx hb hK hP 2 0 rfl rfl (e := nxt n i) rfl (by omega) (by omega) dX7_where_208 ?_
                      refine lv_iload_n hx hb dX7_where_209 rfl (lv_at hl 6 rfl) ?_
                      refine lv_icmp_le (tgt := 217) hx hb dX7_where_210 (by decide) (fun c_240 => ?_) (fun c_240 => ?_)
                      · have c_240 : (Y (nxt n i)).toInt ≤ py.toInt := zc_le rfl rfl c_240
                        refine lv_iconst (v := 0) hx hb dX7_where_217 (by decide) ?_
                        refine lv_icmp_eq (tgt := 266) hx hb dX7_where_218 (by decide) (fun c_241 => ?_) (fun c_241 => ?_)
                        · exact absurd c_241 (by decide)
                        · have c_241 : ¬ 1 = 0 := zc_ne (by decide) (by decide) c_241
                          refine lv_iload hx hb dX7_where_221 (lv_at hl 0 rfl) ?_
                          refine lv_if_le (tgt := 230) hx hb dX7_where_223 (by decide) (fun c_242 => ?_) (fun c_242 => ?_)
                          · have c_242 : (eCr n X Y i px.toInt py.toInt) ≤ 0 := zc_le (iI_toInt (by omega)) (by decide) c_242
                            refine lv_iconst (v := 0) hx hb dX7_where_230 (by decide) ?_
                            refine lv_aload_n hx hb dX7_where_231 rfl (lv_at hl 4 rfl) ?_
                            refine va_get (D := (dC, dI)) (ci := 6) (v := .ref ry) (C := RX7) (T := TX7) (N := 4) hx hb hts inX7 hown hK hP 0 rfl rfl 1 (by decide) (hts _ mw_168) (fun _ h9 => h9) rfl dX7_where_232 ?_
                            refine lv_iload hx hb dX7_where_235 (lv_at hl 1 rfl) ?_
                            refine z_iald hx hb hK hP 2 0 rfl rfl (e := nxt n i) rfl (by omega) (by omega) dX7_where_237 ?_
                            refine lv_aload_n hx hb dX7_where_238 rfl (lv_at hl 4 rfl) ?_
                            refine va_get (D := (dC, dI)) (ci := 6) (v := .ref ry) (C := RX7) (T := TX7) (N := 4) hx hb hts inX7 hown hK hP 0 rfl rfl 1 (by decide) (hts _ mw_168) (fun _ h9 => h9) rfl dX7_where_239 ?_
                            refine lv_iload hx hb dX7_where_242 (lv_at hl 2 rfl) ?_
                            refine z_iald hx hb hK hP 2 0 rfl rfl (e := i) rfl (by omega) (by omega) dX7_where_244 ?_
                            refine lv_icmp_le (tgt := 252) hx hb dX7_where_245 (by decide) (fun c_243 => ?_) (fun c_243 => ?_)
                            · have c_243 : (Y (nxt n i)).toInt ≤ (Y i).toInt := zc_le rfl rfl c_243
                              refine lv_iconst (v := 0) hx hb dX7_where_252 (by decide) ?_
                              refine lv_icmp_ne (tgt := 266) hx hb dX7_where_253 (by decide) (fun c_244 => ?_) (fun c_244 => ?_)
                              · exact absurd (by decide) c_244
                              · have c_244 : 0 = 0 := zc_eq (by decide) (by decide) c_244
                                refine lv_iload_n hx hb dX7_where_256 rfl (lv_at hl 3 rfl) ?_
                                refine lv_if_ne (tgt := 264) hx hb dX7_where_257 (by decide) (fun c_245 => ?_) (fun c_245 => ?_)
                                · have c_245 : par2 (eTg n X Y px.toInt py.toInt) i := zp_1 c_245
                                  refine lv_iconst (v := 0) hx hb dX7_where_264 (by decide) ?_
                                  refine lv_istore_n (lv' := [(3, .int 0), (6, .int (iI (eCr n X Y i px.toInt py.toInt))), (5, .int (nI (nxt n i))), (4, .int (nI i)), (0, .ref r), (1, .int px), (2, .int py)]) hx hb dX7_where_265 rfl hl (by decide) rfl (fun ls hl => ?_)
                                  refine lv_iinc (v := nI (i + 1)) (lv' := [(4, .int (nI (i + 1))), (3, .int 0), (6, .int (iI (eCr n X Y i px.toInt py.toInt))), (5, .int (nI (nxt n i))), (0, .ref r), (1, .int px), (2, .int py)]) hx hb dX7_where_266 hl (k := 3) rfl (nI_add i 1) (by decide) rfl (fun ls hl => ?_)
                                  refine lv_goto (tgt := 5) hx hb dX7_where_269 (by decide) ?_
                                  have hl9 := lv_sub hl [0, 1, 4, 5, 6] rfl
                                  have e9_3 : pI (par2 (eTg n X Y px.toInt py.toInt) (i + 1)) = (0 : Int32) := by first | exact zp_iff (par2_n (sk_tg (by omega)).1) | exact zp_iff (par2_n (by unfold eTg; omega)) | exact zp_t ((par2_y (by unfold eTg; omega)).mpr (by assumption)) | exact zp_f (fun q => (par2_y (by unfold eTg; omega)).mp q (by assumption))
                                  have hl9 : lv_has ls 7 [(4, .int (nI (i + 1))), (3, .int (pI (par2 (eTg n X Y px.toInt py.toInt) (i + 1)))), (0, .ref r), (1, .int px), (2, .int py)] := by rw [e9_3]; exact hl9
                                  exact ih_5 (i + 1) H locs ls (by omega) (by omega) (by intro k hk; rcases Nat.lt_or_ge k i with h | h; exact hno k h; have e9 : k = i := (by omega); subst e9; first | exact (sk_tg (by omega)).2 | (unfold eOn onS; unfold eCr at *; omega)) hP hD hS hl9
                                · have c_245 : ¬ (par2 (eTg n X Y px.toInt py.toInt) i) := zp_0 c_245
                                  refine lv_iconst (v := 1) hx hb dX7_where_260 (by decide) ?_
                                  refine lv_goto (tgt := 265) hx hb dX7_where_261 (by decide) ?_
                                  refine lv_istore_n (lv' := [(3, .int 1), (6, .int (iI (eCr n X Y i px.toInt py.toInt))), (5, .int (nI (nxt n i))), (4, .int (nI i)), (0, .ref r), (1, .int px), (2, .int py)]) hx hb dX7_where_265 rfl hl (by decide) rfl (fun ls hl => ?_)
                                  refine lv_iinc (v := nI (i + 1)) (lv' := [(4, .int (nI (i + 1))), (3, .int 1), (6, .int (iI (eCr n X Y i px.toInt py.toInt))), (5, .int (nI (nxt n i))), (0, .ref r), (1, .int px), (2, .int py)]) hx hb dX7_where_266 hl (k := 3) rfl (nI_add i 1) (by decide) rfl (fun ls hl => ?_)
                                  refine lv_goto (tgt := 5) hx hb dX7_where_269 (by decide) ?_
                                  have hl9 := lv_sub hl [0, 1, 4, 5, 6] rfl
                                  have e9_3 : pI (par2 (eTg n X Y px.toInt py.toInt) (i + 1)) = (1 : Int32) := by first | exact zp_iff (par2_n (sk_tg (by omega)).1) | exact zp_iff (par2_n (by unfold eTg; omega)) | exact zp_t ((par2_y (by unfold eTg; omega)).mpr (by assumption)) | exact zp_f (fun q => (par2_y (by unfold eTg; omega)).mp q (by assumption))
                                  have hl9 : lv_has ls 7 [(4, .int (nI (i + 1))), (3, .int (pI (par2 (eTg n X Y px.toInt py.toInt) (i + 1)))), (0, .ref r), (1, .int px), (2, .int py)] := by rw [e9_3]; exact hl9
                                  exact ih_5 (i + 1) H locs ls (by omega) (by omega) (by intro k hk; rcases Nat.lt_or_ge k i with h | h; exact hno k h; have e9 : k = i := (by omega); subst e9; first | exact (sk_tg (by omega)).2 | (unfold eOn onS; unfold eCr at *; omega)) hP hD hS hl9
                            · have c_243 : (Y i).toInt < (Y (nxt n i)).toInt := zc_nle rfl rfl c_243
                              refine lv_iconst (v := 1) hx hb dX7_where_248 (by decide) ?_
                              refine lv_goto (tgt := 253) hx hb dX7_where_249 (by decide) ?_
                              refine lv_icmp_ne (tgt := 266) hx hb dX7_where_253 (by decide) (fun c_246 => ?_) (fun c_246 => ?_)
                              · have c_246 : ¬ 0 = 1 := zc_ne (by decide) (by decide) c_246
                                refine lv_iinc (v := nI (i + 1)) (lv' := [(4, .int (nI (i + 1))), (6, .int (iI (eCr n X Y i px.toInt py.toInt))), (5, .int (nI (nxt n i))), (3, .int (pI (par2 (eTg n X Y px.toInt py.toInt) i))), (0, .ref r), (1, .int px), (2, .int py)]) hx hb dX7_where_266 hl (k := 2) rfl (nI_add i 1) (by decide) rfl (fun ls hl => ?_)
                                refine lv_goto (tgt := 5) hx hb dX7_where_269 (by decide) ?_
                                have hl9 := lv_sub hl [0, 3, 4, 5, 6] rfl
                                have e9_3 : pI (par2 (eTg n X Y px.toInt py.toInt) (i + 1)) = (pI (par2 (eTg n X Y px.toInt py.toInt) i) : Int32) := by first | exact zp_iff (par2_n (sk_tg (by omega)).1) | exact zp_iff (par2_n (by unfold eTg; omega)) | exact zp_t ((par2_y (by unfold eTg; omega)).mpr (by assumption)) | exact zp_f (fun q => (par2_y (by unfold eTg; omega)).mp q (by assumption))
                                have hl9 : lv_has ls 7 [(4, .int (nI (i + 1))), (3, .int (pI (par2 (eTg n X Y px.toInt py.toInt) (i + 1)))), (0, .ref r), (1, .int px), (2, .int py)] := by rw [e9_3]; exact hl9
                                exact ih_5 (i + 1) H locs ls (by omega) (by omega) (by intro k hk; rcases Nat.lt_or_ge k i with h | h; exact hno k h; have e9 : k = i := (by omega); subst e9; first | exact (sk_tg (by omega)).2 | (unfold eOn onS; unfold eCr at *; omega)) hP hD hS hl9
                              · exact absurd c_246 (by decide)
                          · have c_242 : 0 < (eCr n X Y i px.toInt py.toInt) := zc_nle (iI_toInt (by omega)) (by decide) c_242
                            refine lv_iconst (v := 1) hx hb dX7_where_226 (by decide) ?_
                            refine lv_goto (tgt := 231) hx hb dX7_where_227 (by decide) ?_
                            refine lv_aload_n hx hb dX7_where_231 rfl (lv_at hl 4 rfl) ?_
                            refine va_get (D := (dC, dI)) (ci := 6) (v := .ref ry) (C := RX7) (T := TX7) (N := 4) hx hb hts inX7 hown hK hP 0 rfl rfl 1 (by decide) (hts _ mw_168) (fun _ h9 => h9) rfl dX7_where_232 ?_
                            refine lv_iload hx hb dX7_where_235 (lv_at hl 1 rfl) ?_
                            refine z_iald hx hb hK hP 2 0 rfl rfl (e := nxt n i) rfl (by omega) (by omega) dX7_where_237 ?_
                            refine lv_aload_n hx hb dX7_where_238 rfl (lv_at hl 4 rfl) ?_
                            refine va_get (D := (dC, dI)) (ci := 6) (v := .ref ry) (C := RX7) (T := TX7) (N := 4) hx hb hts inX7 hown hK hP 0 rfl rfl 1 (by decide) (hts _ mw_168) (fun _ h9 => h9) rfl dX7_where_239 ?_
                            refine lv_iload hx hb dX7_where_242 (lv_at hl 2 rfl) ?_
                            refine z_iald hx hb hK hP 2 0 rfl rfl (e := i) rfl (by omega) (by omega) dX7_where_244 ?_
                            refine lv_icmp_le (tgt := 252) hx hb dX7_where_245 (by decide) (fun c_247 => ?_) (fun c_247 => ?_)
                            · have c_247 : (Y (nxt n i)).toInt ≤ (Y i).toInt := zc_le rfl rfl c_247
                              refine lv_iconst (v := 0) hx hb dX7_where_252 (by decide) ?_
                              refine lv_icmp_ne (tgt := 266) hx hb dX7_where_253 (by decide) (fun c_248 => ?_) (fun c_248 => ?_)
                              · have c_248 : ¬ 1 = 0 := zc_ne (by decide) (by decide) c_248
                                refine lv_iinc (v := nI (i + 1)) (lv' := [(4, .int (nI (i + 1))), (6, .int (iI (eCr n X Y i px.toInt py.toInt))), (5, .int (nI (nxt n i))), (3, .int (pI (par2 (eTg n X Y px.toInt py.toInt) i))), (0, .ref r), (1, .int px), (2, .int py)]) hx hb dX7_where_266 hl (k := 2) rfl (nI_add i 1) (by decide) rfl (fun ls hl => ?_)
                                refine lv_goto (tgt := 5) hx hb dX7_where_269 (by decide) ?_
                                have hl9 := lv_sub hl [0, 3, 4, 5, 6] rfl
                                have e9_3 : pI (par2 (eTg n X Y px.toInt py.toInt) (i + 1)) = (pI (par2 (eTg n X Y px.toInt py.toInt) i) : Int32) := by first | exact zp_iff (par2_n (sk_tg (by omega)).1) | exact zp_iff (par2_n (by unfold eTg; omega)) | exact zp_t ((par2_y (by unfold eTg; omega)).mpr (by assumption)) | exact zp_f (fun q => (par2_y (by unfold eTg; omega)).mp q (by assumption))
                                have hl9 : lv_has ls 7 [(4, .int (nI (i + 1))), (3, .int (pI (par2 (eTg n X Y px.toInt py.toInt) (i + 1)))), (0, .ref r), (1, .int px), (2, .int py)] := by rw [e9_3]; exact hl9
                                exact ih_5 (i + 1) H locs ls (by omega) (by omega) (by intro k hk; rcases Nat.lt_or_ge k i with h | h; exact hno k h; have e9 : k = i := (by omega); subst e9; first | exact (sk_tg (by omega)).2 | (unfold eOn onS; unfold eCr at *; omega)) hP hD hS hl9
                              · exact absurd c_248 (by decide)
                            · have c_247 : (Y i).toInt < (Y (nxt n i)).toInt := zc_nle rfl rfl c_247
                              refine lv_iconst (v := 1) hx hb dX7_where_248 (by decide) ?_
                              refine lv_goto (tgt := 253) hx hb dX7_where_249 (by decide) ?_
                              refine lv_icmp_ne (tgt := 266) hx hb dX7_where_253 (by decide) (fun c_249 => ?_) (fun c_249 => ?_)
                              · exact absurd (by decide) c_249
                              · have c_249 : 1 = 1 := zc_eq (by decide) (by decide) c_249
                                refine lv_iload_n hx hb dX7_where_256 rfl (lv_at hl 3 rfl) ?_
                                refine lv_if_ne (tgt := 264) hx hb dX7_where_257 (by decide) (fun c_250 => ?_) (fun c_250 => ?_)
                                · have c_250 : par2 (eTg n X Y px.toInt py.toInt) i := zp_1 c_250
                                  refine lv_iconst (v := 0) hx hb dX7_where_264 (by decide) ?_
                                  refine lv_istore_n (lv' := [(3, .int 0), (6, .int (iI (eCr n X Y i px.toInt py.toInt))), (5, .int (nI (nxt n i))), (4, .int (nI i)), (0, .ref r), (1, .int px), (2, .int py)]) hx hb dX7_where_265 rfl hl (by decide) rfl (fun ls hl => ?_)
                                  refine lv_iinc (v := nI (i + 1)) (lv' := [(4, .int (nI (i + 1))), (3, .int 0), (6, .int (iI (eCr n X Y i px.toInt py.toInt))), (5, .int (nI (nxt n i))), (0, .ref r), (1, .int px), (2, .int py)]) hx hb dX7_where_266 hl (k := 3) rfl (nI_add i 1) (by decide) rfl (fun ls hl => ?_)
                                  refine lv_goto (tgt := 5) hx hb dX7_where_269 (by decide) ?_
                                  have hl9 := lv_sub hl [0, 1, 4, 5, 6] rfl
                                  have e9_3 : pI (par2 (eTg n X Y px.toInt py.toInt) (i + 1)) = (0 : Int32) := by first | exact zp_iff (par2_n (sk_tg (by omega)).1) | exact zp_iff (par2_n (by unfold eTg; omega)) | exact zp_t ((par2_y (by unfold eTg; omega)).mpr (by assumption)) | exact zp_f (fun q => (par2_y (by unfold eTg; omega)).mp q (by assumption))
                                  have hl9 : lv_has ls 7 [(4, .int (nI (i + 1))), (3, .int (pI (par2 (eTg n X Y px.toInt py.toInt) (i + 1)))), (0, .ref r), (1, .int px), (2, .int py)] := by rw [e9_3]; exact hl9
                                  exact ih_5 (i + 1) H locs ls (by omega) (by omega) (by intro k hk; rcases Nat.lt_or_ge k i with h | h; exact hno k h; have e9 : k = i := (by omega); subst e9; first | exact (sk_tg (by omega)).2 | (unfold eOn onS; unfold eCr at *; omega)) hP hD hS hl9
                                · have c_250 : ¬ (par2 (eTg n X Y px.toInt py.toInt) i) := zp_0 c_250
                                  refine lv_iconst (v := 1) hx hb dX7_where_260 (by decide) ?_
                                  refine lv_goto (tgt := 265) hx hb dX7_where_261 (by decide) ?_
                                  refine lv_istore_n (lv' := [(3, .int 1), (6, .int (iI (eCr n X Y i px.toInt py.toInt))), (5, .int (nI (nxt n i))), (4, .int (nI i)), (0, .ref r), (1, .int px), (2, .int py)]) hx hb dX7_where_265 rfl hl (by decide) rfl (fun ls hl => ?_)
                                  refine lv_iinc (v := nI (i + 1)) (lv' := [(4, .int (nI (i + 1))), (3, .int 1), (6, .int (iI (eCr n X Y i px.toInt py.toInt))), (5, .int (nI (nxt n i))), (0, .ref r), (1, .int px), (2, .int py)]) hx hb dX7_where_266 hl (k := 3) rfl (nI_add i 1) (by decide) rfl (fun ls hl => ?_)
                                  refine lv_goto (tgt := 5) hx hb dX7_where_269 (by decide) ?_
                                  have hl9 := lv_sub hl [0, 1, 4, 5, 6] rfl
                                  have e9_3 : pI (par2 (eTg n X Y px.toInt py.toInt) (i + 1)) = (1 : Int32) := by first | exact zp_iff (par2_n (sk_tg (by omega)).1) | exact zp_iff (par2_n (by unfold eTg; omega)) | exact zp_t ((par2_y (by unfold eTg; omega)).mpr (by assumption)) | exact zp_f (fun q => (par2_y (by unfold eTg; omega)).mp q (by assumption))
                                  have hl9 : lv_has ls 7 [(4, .int (nI (i + 1))), (3, .int (pI (par2 (eTg n X Y px.toInt py.toInt) (i + 1)))), (0, .ref r), (1, .int px), (2, .int py)] := by rw [e9_3]; exact hl9
                                  exact ih_5 (i + 1) H locs ls (by omega) (by omega) (by intro k hk; rcases Nat.lt_or_ge k i with h | h; exact hno k h; have e9 : k = i := (by omega); subst e9; first | exact (sk_tg (by omega)).2 | (unfold eOn onS; unfold eCr at *; omega)) hP hD hS hl9
                      · have c_240 : py.toInt < (Y (nxt n i)).toInt := zc_nle rfl rfl c_240
                        refine lv_iconst (v := 1) hx hb dX7_where_213 (by decide) ?_
                        refine lv_goto (tgt := 218) hx hb dX7_where_214 (by decide) ?_
                        refine lv_icmp_eq (tgt := 266) hx hb dX7_where_218 (by decide) (fun c_251 => ?_) (fun c_251 => ?_)
                        · have c_251 : 1 = 1 := zc_eq (by decide) (by decide) c_251
                          refine lv_iinc (v := nI (i + 1)) (lv' := [(4, .int (nI (i + 1))), (6, .int (iI (eCr n X Y i px.toInt py.toInt))), (5, .int (nI (nxt n i))), (3, .int (pI (par2 (eTg n X Y px.toInt py.toInt) i))), (0, .ref r), (1, .int px), (2, .int py)]) hx hb dX7_where_266 hl (k := 2) rfl (nI_add i 1) (by decide) rfl (fun ls hl => ?_)
                          refine lv_goto (tgt := 5) hx hb dX7_where_269 (by decide) ?_
                          have hl9 := lv_sub hl [0, 3, 4, 5, 6] rfl
                          have e9_3 : pI (par2 (eTg n X Y px.toInt py.toInt) (i + 1)) = (pI (par2 (eTg n X Y px.toInt py.toInt) i) : Int32) := by first | exact zp_iff (par2_n (sk_tg (by omega)).1) | exact zp_iff (par2_n (by unfold eTg; omega)) | exact zp_t ((par2_y (by unfold eTg; omega)).mpr (by assumption)) | exact zp_f (fun q => (par2_y (by unfold eTg; omega)).mp q (by assumption))
                          have hl9 : lv_has ls 7 [(4, .int (nI (i + 1))), (3, .int (pI (par2 (eTg n X Y px.toInt py.toInt) (i + 1)))), (0, .ref r), (1, .int px), (2, .int py)] := by rw [e9_3]; exact hl9
                          exact ih_5 (i + 1) H locs ls (by omega) (by omega) (by intro k hk; rcases Nat.lt_or_ge k i with h | h; exact hno k h; have e9 : k = i := (by omega); subst e9; first | exact (sk_tg (by omega)).2 | (unfold eOn onS; unfold eCr at *; omega)) hP hD hS hl9
                        · exact absurd (by decide) c_251
                  · have c_226 : (eCr n X Y i px.toInt py.toInt) = 0 := zc_eq (iI_toInt (by omega)) (by decide) c_226
                    refine lv_aload_n hx hb dX7_where_162 rfl (lv_at hl 4 rfl) ?_
                    refine va_get (D := (dC, dI)) (ci := 6) (v := .ref rx) (C := RX7) (T := TX7) (N := 4) hx hb hts inX7 hown hK hP 0 rfl rfl 0 (by decide) (hts _ mw_161) (fun _ h9 => h9) rfl dX7_where_163 ?_
                    refine lv_iload hx hb dX7_where_166 (lv_at hl 2 rfl) ?_
                    refine z_iald hx hb hK hP 1 0 rfl rfl (e := i) rfl (by omega) (by omega) dX7_where_168 ?_
                    refine lv_iload_n hx hb dX7_where_169 rfl (lv_at hl 5 rfl) ?_
                    refine lv_icmp_le (tgt := 184) hx hb dX7_where_170 (by decide) (fun c_252 => ?_) (fun c_252 => ?_)
                    · have c_252 : (X i).toInt ≤ px.toInt := zc_le rfl rfl c_252
                      refine lv_iconst (v := 2) hx hb dX7_where_184 (by decide) ?_
                      have hP9 := hP.sub (ws' := [(r, .inr (6, [.ref rx, .ref ry, .int (nI n), .int rg])), (rx, .inl (cI, cap, .inl X)), (ry, .inl (cI, cap, .inl Y))]) [0, 1, 2] rfl
                      have hD9 := hD.sub (ws' := [(r, .inr (6, [.ref rx, .ref ry, .int (nI n), .int rg])), (rx, .inl (cI, cap, .inl X)), (ry, .inl (cI, cap, .inl Y))]) [0, 1, 2] (by decide) rfl
                      rw [hQ9]
                      exact W.iret (v := 2) hx hb hr (fun t ht hW => ⟨⟨congrArg (fun z => Outcome.returned (some (Value.int z))) (show (2 : Int32) = whr n X Y px.toInt py.toInt from (whr_2 ⟨i, by omega, by unfold eOn onS; unfold eCr at *; omega⟩).symm), by rw [ht]; exact hP9, hD9⟩, hS.F ht⟩) hS.2.2 dX7_where_185
                    · have c_252 : px.toInt < (X i).toInt := zc_nle rfl rfl c_252
                      refine lv_aload_n hx hb dX7_where_173 rfl (lv_at hl 4 rfl) ?_
                      refine va_get (D := (dC, dI)) (ci := 6) (v := .ref rx) (C := RX7) (T := TX7) (N := 4) hx hb hts inX7 hown hK hP 0 rfl rfl 0 (by decide) (hts _ mw_161) (fun _ h9 => h9) rfl dX7_where_174 ?_
                      refine lv_iload hx hb dX7_where_177 (lv_at hl 1 rfl) ?_
                      refine z_iald hx hb hK hP 1 0 rfl rfl (e := nxt n i) rfl (by omega) (by omega) dX7_where_179 ?_
                      refine lv_iload_n hx hb dX7_where_180 rfl (lv_at hl 5 rfl) ?_
                      refine lv_icmp_gt (tgt := 186) hx hb dX7_where_181 (by decide) (fun c_253 => ?_) (fun c_253 => ?_)
                      · have c_253 : px.toInt < (X (nxt n i)).toInt := zc_lt rfl rfl c_253
                        refine lv_aload_n hx hb dX7_where_186 rfl (lv_at hl 4 rfl) ?_
                        refine va_get (D := (dC, dI)) (ci := 6) (v := .ref ry) (C := RX7) (T := TX7) (N := 4) hx hb hts inX7 hown hK hP 0 rfl rfl 1 (by decide) (hts _ mw_168) (fun _ h9 => h9) rfl dX7_where_187 ?_
                        refine lv_iload hx hb dX7_where_190 (lv_at hl 2 rfl) ?_
                        refine z_iald hx hb hK hP 2 0 rfl rfl (e := i) rfl (by omega) (by omega) dX7_where_192 ?_
                        refine lv_iload_n hx hb dX7_where_193 rfl (lv_at hl 6 rfl) ?_
                        refine lv_icmp_le (tgt := 201) hx hb dX7_where_194 (by decide) (fun c_254 => ?_) (fun c_254 => ?_)
                        · have c_254 : (Y i).toInt ≤ py.toInt := zc_le rfl rfl c_254
                          refine lv_iconst (v := 0) hx hb dX7_where_201 (by decide) ?_
                          refine lv_aload_n hx hb dX7_where_202 rfl (lv_at hl 4 rfl) ?_
                          refine va_get (D := (dC, dI)) (ci := 6) (v := .ref ry) (C := RX7) (T := TX7) (N := 4) hx hb hts inX7 hown hK hP 0 rfl rfl 1 (by decide) (hts _ mw_168) (fun _ h9 => h9) rfl dX7_where_203 ?_
                          refine lv_iload hx hb dX7_where_206 (lv_at hl 1 rfl) ?_
                          refine z_iald hx hb hK hP 2 0 rfl rfl (e := nxt n i) rfl (by omega) (by omega) dX7_where_208 ?_
                          refine lv_iload_n hx hb dX7_where_209 rfl (lv_at hl 6 rfl) ?_
                          refine lv_icmp_le (tgt := 217) hx hb dX7_where_210 (by decide) (fun c_255 => ?_) (fun c_255 => ?_)
                          · have c_255 : (Y (nxt n i)).toInt ≤ py.toInt := zc_le rfl rfl c_255
                            refine lv_iconst (v := 0) hx hb dX7_where_217 (by decide) ?_
                            refine lv_icmp_eq (tgt := 266) hx hb dX7_where_218 (by decide) (fun c_256 => ?_) (fun c_256 => ?_)
                            · have c_256 : 0 = 0 := zc_eq (by decide) (by decide) c_256
                              refine lv_iinc (v := nI (i + 1)) (lv' := [(4, .int (nI (i + 1))), (6, .int (iI (eCr n X Y i px.toInt py.toInt))), (5, .int (nI (nxt n i))), (3, .int (pI (par2 (eTg n X Y px.toInt py.toInt) i))), (0, .ref r), (1, .int px), (2, .int py)]) hx hb dX7_where_266 hl (k := 2) rfl (nI_add i 1) (by decide) rfl (fun ls hl => ?_)
                              refine lv_goto (tgt := 5) hx hb dX7_where_269 (by decide) ?_
                              have hl9 := lv_sub hl [0, 3, 4, 5, 6] rfl
                              have e9_3 : pI (par2 (eTg n X Y px.toInt py.toInt) (i + 1)) = (pI (par2 (eTg n X Y px.toInt py.toInt) i) : Int32) := by first | exact zp_iff (par2_n (sk_tg (by omega)).1) | exact zp_iff (par2_n (by unfold eTg; omega)) | exact zp_t ((par2_y (by unfold eTg; omega)).mpr (by assumption)) | exact zp_f (fun q => (par2_y (by unfold eTg; omega)).mp q (by assumption))
                              have hl9 : lv_has ls 7 [(4, .int (nI (i + 1))), (3, .int (pI (par2 (eTg n X Y px.toInt py.toInt) (i + 1)))), (0, .ref r), (1, .int px), (2, .int py)] := by rw [e9_3]; exact hl9
                              exact ih_5 (i + 1) H locs ls (by omega) (by omega) (by intro k hk; rcases Nat.lt_or_ge k i with h | h; exact hno k h; have e9 : k = i := (by omega); subst e9; first | exact (sk_tg (by omega)).2 | (unfold eOn onS; unfold eCr at *; omega)) hP hD hS hl9
                            · exact absurd (by decide) c_256
                          · have c_255 : py.toInt < (Y (nxt n i)).toInt := zc_nle rfl rfl c_255
                            refine lv_iconst (v := 1) hx hb dX7_where_213 (by decide) ?_
                            refine lv_goto (tgt := 218) hx hb dX7_where_214 (by decide) ?_
                            refine lv_icmp_eq (tgt := 266) hx hb dX7_where_218 (by decide) (fun c_257 => ?_) (fun c_257 => ?_)
                            · exact absurd c_257 (by decide)
                            · have c_257 : ¬ 0 = 1 := zc_ne (by decide) (by decide) c_257
                              refine lv_iload hx hb dX7_where_221 (lv_at hl 0 rfl) ?_
                              refine lv_if_le (tgt := 230) hx hb dX7_where_223 (by decide) (fun c_258 => ?_) (fun c_258 => ?_)
                              · have c_258 : (eCr n X Y i px.toInt py.toInt) ≤ 0 := zc_le (iI_toInt (by omega)) (by decide) c_258
                                refine lv_iconst (v := 0) hx hb dX7_where_230 (by decide) ?_
                                refine lv_aload_n hx hb dX7_where_231 rfl (lv_at hl 4 rfl) ?_
                                refine va_get (D := (dC, dI)) (ci := 6) (v := .ref ry) (C := RX7) (T := TX7) (N := 4) hx hb hts inX7 hown hK hP 0 rfl rfl 1 (by decide) (hts _ mw_168) (fun _ h9 => h9) rfl dX7_where_232 ?_
                                refine lv_iload hx hb dX7_where_235 (lv_at hl 1 rfl) ?_
                                refine z_iald hx hb hK hP 2 0 rfl rfl (e := nxt n i) rfl (by omega) (by omega) dX7_where_237 ?_
                                refine lv_aload_n hx hb dX7_where_238 rfl (lv_at hl 4 rfl) ?_
                                refine va_get (D := (dC, dI)) (ci := 6) (v := .ref ry) (C := RX7) (T := TX7) (N := 4) hx hb hts inX7 hown hK hP 0 rfl rfl 1 (by decide) (hts _ mw_168) (fun _ h9 => h9) rfl dX7_where_239 ?_
                                refine lv_iload hx hb dX7_where_242 (lv_at hl 2 rfl) ?_
                                refine z_iald hx hb hK hP 2 0 rfl rfl (e := i) rfl (by omega) (by omega) dX7_where_244 ?_
                                refine lv_icmp_le (tgt := 252) hx hb dX7_where_245 (by decide) (fun c_259 => ?_) (fun c_259 => ?_)
                                · have c_259 : (Y (nxt n i)).toInt ≤ (Y i).toInt := zc_le rfl rfl c_259
                                  refine lv_iconst (v := 0) hx hb dX7_where_252 (by decide) ?_
                                  refine lv_icmp_ne (tgt := 266) hx hb dX7_where_253 (by decide) (fun c_260 => ?_) (fun c_260 => ?_)
                                  · exact absurd (by decide) c_260
                                  · have c_260 : 0 = 0 := zc_eq (by decide) (by decide) c_260
                                    refine lv_iload_n hx hb dX7_where_256 rfl (lv_at hl 3 rfl) ?_
                                    refine lv_if_ne (tgt := 264) hx hb dX7_where_257 (by decide) (fun c_261 => ?_) (fun c_261 => ?_)
                                    · have c_261 : par2 (eTg n X Y px.toInt py.toInt) i := zp_1 c_261
                                      refine lv_iconst (v := 0) hx hb dX7_where_264 (by decide) ?_
                                      refine lv_istore_n (lv' := [(3, .int 0), (6, .int (iI (eCr n X Y i px.toInt py.toInt))), (5, .int (nI (nxt n i))), (4, .int (nI i)), (0, .ref r), (1, .int px), (2, .int py)]) hx hb dX7_where_265 rfl hl (by decide) rfl (fun ls hl => ?_)
                                      refine lv_iinc (v := nI (i + 1)) (lv' := [(4, .int (nI (i + 1))), (3, .int 0), (6, .int (iI (eCr n X Y i px.toInt py.toInt))), (5, .int (nI (nxt n i))), (0, .ref r), (1, .int px), (2, .int py)]) hx hb dX7_where_266 hl (k := 3) rfl (nI_add i 1) (by decide) rfl (fun ls hl => ?_)
                                      refine lv_goto (tgt := 5) hx hb dX7_where_269 (by decide) ?_
                                      have hl9 := lv_sub hl [0, 1, 4, 5, 6] rfl
                                      have e9_3 : pI (par2 (eTg n X Y px.toInt py.toInt) (i + 1)) = (0 : Int32) := by first | exact zp_iff (par2_n (sk_tg (by omega)).1) | exact zp_iff (par2_n (by unfold eTg; omega)) | exact zp_t ((par2_y (by unfold eTg; omega)).mpr (by assumption)) | exact zp_f (fun q => (par2_y (by unfold eTg; omega)).mp q (by assumption))
                                      have hl9 : lv_has ls 7 [(4, .int (nI (i + 1))), (3, .int (pI (par2 (eTg n X Y px.toInt py.toInt) (i + 1)))), (0, .ref r), (1, .int px), (2, .int py)] := by rw [e9_3]; exact hl9
                                      exact ih_5 (i + 1) H locs ls (by omega) (by omega) (by intro k hk; rcases Nat.lt_or_ge k i with h | h; exact hno k h; have e9 : k = i := (by omega); subst e9; first | exact (sk_tg (by omega)).2 | (unfold eOn onS; unfold eCr at *; omega)) hP hD hS hl9
                                    · have c_261 : ¬ (par2 (eTg n X Y px.toInt py.toInt) i) := zp_0 c_261
                                      refine lv_iconst (v := 1) hx hb dX7_where_260 (by decide) ?_
                                      refine lv_goto (tgt := 265) hx hb dX7_where_261 (by decide) ?_
                                      refine lv_istore_n (lv' := [(3, .int 1), (6, .int (iI (eCr n X Y i px.toInt py.toInt))), (5, .int (nI (nxt n i))), (4, .int (nI i)), (0, .ref r), (1, .int px), (2, .int py)]) hx hb dX7_where_265 rfl hl (by decide) rfl (fun ls hl => ?_)
                                      refine lv_iinc (v := nI (i + 1)) (lv' := [(4, .int (nI (i + 1))), (3, .int 1), (6, .int (iI (eCr n X Y i px.toInt py.toInt))), (5, .int (nI (nxt n i))), (0, .ref r), (1, .int px), (2, .int py)]) hx hb dX7_where_266 hl (k := 3) rfl (nI_add i 1) (by decide) rfl (fun ls hl => ?_)
                                      refine lv_goto (tgt := 5) hx hb dX7_where_269 (by decide) ?_
                                      have hl9 := lv_sub hl [0, 1, 4, 5, 6] rfl
                                      have e9_3 : pI (par2 (eTg n X Y px.toInt py.toInt) (i + 1)) = (1 : Int32) := by first | exact zp_iff (par2_n (sk_tg (by omega)).1) | exact zp_iff (par2_n (by unfold eTg; omega)) | exact zp_t ((par2_y (by unfold eTg; omega)).mpr (by assumption)) | exact zp_f (fun q => (par2_y (by unfold eTg; omega)).mp q (by assumption))
                                      have hl9 : lv_has ls 7 [(4, .int (nI (i + 1))), (3, .int (pI (par2 (eTg n X Y px.toInt py.toInt) (i + 1)))), (0, .ref r), (1, .int px), (2, .int py)] := by rw [e9_3]; exact hl9
                                      exact ih_5 (i + 1) H locs ls (by omega) (by omega) (by intro k hk; rcases Nat.lt_or_ge k i with h | h; exact hno k h; have e9 : k = i := (by omega); subst e9; first | exact (sk_tg (by omega)).2 | (unfold eOn onS; unfold eCr at *; omega)) hP hD hS hl9
                                · have c_259 : (Y i).toInt < (Y (nxt n i)).toInt := zc_nle rfl rfl c_259
                                  refine lv_iconst (v := 1) hx hb dX7_where_248 (by decide) ?_
                                  refine lv_goto (tgt := 253) hx hb dX7_where_249 (by decide) ?_
                                  refine lv_icmp_ne (tgt := 266) hx hb dX7_where_253 (by decide) (fun c_262 => ?_) (fun c_262 => ?_)
                                  · have c_262 : ¬ 0 = 1 := zc_ne (by decide) (by decide) c_262
                                    refine lv_iinc (v := nI (i + 1)) (lv' := [(4, .int (nI (i + 1))), (6, .int (iI (eCr n X Y i px.toInt py.toInt))), (5, .int (nI (nxt n i))), (3, .int (pI (par2 (eTg n X Y px.toInt py.toInt) i))), (0, .ref r), (1, .int px), (2, .int py)]) hx hb dX7_where_266 hl (k := 2) rfl (nI_add i 1) (by decide) rfl (fun ls hl => ?_)
                                    refine lv_goto (tgt := 5) hx hb dX7_where_269 (by decide) ?_
                                    have hl9 := lv_sub hl [0, 3, 4, 5, 6] rfl
                                    have e9_3 : pI (par2 (eTg n X Y px.toInt py.toInt) (i + 1)) = (pI (par2 (eTg n X Y px.toInt py.toInt) i) : Int32) := by first | exact zp_iff (par2_n (sk_tg (by omega)).1) | exact zp_iff (par2_n (by unfold eTg; omega)) | exact zp_t ((par2_y (by unfold eTg; omega)).mpr (by assumption)) | exact zp_f (fun q => (par2_y (by unfold eTg; omega)).mp q (by assumption))
                                    have hl9 : lv_has ls 7 [(4, .int (nI (i + 1))), (3, .int (pI (par2 (eTg n X Y px.toInt py.toInt) (i + 1)))), (0, .ref r), (1, .int px), (2, .int py)] := by rw [e9_3]; exact hl9
                                    exact ih_5 (i + 1) H locs ls (by omega) (by omega) (by intro k hk; rcases Nat.lt_or_ge k i with h | h; exact hno k h; have e9 : k = i := (by omega); subst e9; first | exact (sk_tg (by omega)).2 | (unfold eOn onS; unfold eCr at *; omega)) hP hD hS hl9
                                  · exact absurd c_262 (by decide)
                              · have c_258 : 0 < (eCr n X Y i px.toInt py.toInt) := zc_nle (iI_toInt (by omega)) (by decide) c_258
                                refine lv_iconst (v := 1) hx hb dX7_where_226 (by decide) ?_
                                refine lv_goto (tgt := 231) hx hb dX7_where_227 (by decide) ?_
                                refine lv_aload_n hx hb dX7_where_231 rfl (lv_at hl 4 rfl) ?_
                                refine va_get (D := (dC, dI)) (ci := 6) (v := .ref ry) (C := RX7) (T := TX7) (N := 4) hx hb hts inX7 hown hK hP 0 rfl rfl 1 (by decide) (hts _ mw_168) (fun _ h9 => h9) rfl dX7_where_232 ?_
                                refine lv_iload hx hb dX7_where_235 (lv_at hl 1 rfl) ?_
                                refine z_iald hx hb hK hP 2 0 rfl rfl (e := nxt n i) rfl (by omega) (by omega) dX7_where_237 ?_
                                refine lv_aload_n hx hb dX7_where_238 rfl (lv_at hl 4 rfl) ?_
                                refine va_get (D := (dC, dI)) (ci := 6) (v := .ref ry) (C := RX7) (T := TX7) (N := 4) hx hb hts inX7 hown hK hP 0 rfl rfl 1 (by decide) (hts _ mw_168) (fun _ h9 => h9) rfl dX7_where_239 ?_
                                refine lv_iload hx hb dX7_where_242 (lv_at hl 2 rfl) ?_
                                refine z_iald hx hb hK hP 2 0 rfl rfl (e := i) rfl (by omega) (by omega) dX7_where_244 ?_
                                refine lv_icmp_le (tgt := 252) hx hb dX7_where_245 (by decide) (fun c_263 => ?_) (fun c_263 => ?_)
                                · have c_263 : (Y (nxt n i)).toInt ≤ (Y i).toInt := zc_le rfl rfl c_263
                                  refine lv_iconst (v := 0) hx hb dX7_where_252 (by decide) ?_
                                  refine lv_icmp_ne (tgt := 266) hx hb dX7_where_253 (by decide) (fun c_264 => ?_) (fun c_264 => ?_)
                                  · have c_264 : ¬ 1 = 0 := zc_ne (by decide) (by decide) c_264
                                    refine lv_iinc (v := nI (i + 1)) (lv' := [(4, .int (nI (i + 1))), (6, .int (iI (eCr n X Y i px.toInt py.toInt))), (5, .int (nI (nxt n i))), (3, .int (pI (par2 (eTg n X Y px.toInt py.toInt) i))), (0, .ref r), (1, .int px), (2, .int py)]) hx hb dX7_where_266 hl (k := 2) rfl (nI_add i 1) (by decide) rfl (fun ls hl => ?_)
                                    refine lv_goto (tgt := 5) hx hb dX7_where_269 (by decide) ?_
                                    have hl9 := lv_sub hl [0, 3, 4, 5, 6] rfl
                                    have e9_3 : pI (par2 (eTg n X Y px.toInt py.toInt) (i + 1)) = (pI (par2 (eTg n X Y px.toInt py.toInt) i) : Int32) := by first | exact zp_iff (par2_n (sk_tg (by omega)).1) | exact zp_iff (par2_n (by unfold eTg; omega)) | exact zp_t ((par2_y (by unfold eTg; omega)).mpr (by assumption)) | exact zp_f (fun q => (par2_y (by unfold eTg; omega)).mp q (by assumption))
                                    have hl9 : lv_has ls 7 [(4, .int (nI (i + 1))), (3, .int (pI (par2 (eTg n X Y px.toInt py.toInt) (i + 1)))), (0, .ref r), (1, .int px), (2, .int py)] := by rw [e9_3]; exact hl9
                                    exact ih_5 (i + 1) H locs ls (by omega) (by omega) (by intro k hk; rcases Nat.lt_or_ge k i with h | h; exact hno k h; have e9 : k = i := (by omega); subst e9; first | exact (sk_tg (by omega)).2 | (unfold eOn onS; unfold eCr at *; omega)) hP hD hS hl9
                                  · exact absurd c_264 (by decide)
                                · have c_263 : (Y i).toInt < (Y (nxt n i)).toInt := zc_nle rfl rfl c_263
                                  refine lv_iconst (v := 1) hx hb dX7_where_248 (by decide) ?_
                                  refine lv_goto (tgt := 253) hx hb dX7_where_249 (by decide) ?_
                                  refine lv_icmp_ne (tgt := 266) hx hb dX7_where_253 (by decide) (fun c_265 => ?_) (fun c_265 => ?_)
                                  · exact absurd (by decide) c_265
                                  · have c_265 : 1 = 1 := zc_eq (by decide) (by decide) c_265
                                    refine lv_iload_n hx hb dX7_where_256 rfl (lv_at hl 3 rfl) ?_
                                    refine lv_if_ne (tgt := 264) hx hb dX7_where_257 (by decide) (fun c_266 => ?_) (fun c_266 => ?_)
                                    · have c_266 : par2 (eTg n X Y px.toInt py.toInt) i := zp_1 c_266
                                      refine lv_iconst (v := 0) hx hb dX7_where_264 (by decide) ?_
                                      refine lv_istore_n (lv' := [(3, .int 0), (6, .int (iI (eCr n X Y i px.toInt py.toInt))), (5, .int (nI (nxt n i))), (4, .int (nI i)), (0, .ref r), (1, .int px), (2, .int py)]) hx hb dX7_where_265 rfl hl (by decide) rfl (fun ls hl => ?_)
                                      refine lv_iinc (v := nI (i + 1)) (lv' := [(4, .int (nI (i + 1))), (3, .int 0), (6, .int (iI (eCr n X Y i px.toInt py.toInt))), (5, .int (nI (nxt n i))), (0, .ref r), (1, .int px), (2, .int py)]) hx hb dX7_where_266 hl (k := 3) rfl (nI_add i 1) (by decide) rfl (fun ls hl => ?_)
                                      refine lv_goto (tgt := 5) hx hb dX7_where_269 (by decide) ?_
                                      have hl9 := lv_sub hl [0, 1, 4, 5, 6] rfl
                                      have e9_3 : pI (par2 (eTg n X Y px.toInt py.toInt) (i + 1)) = (0 : Int32) := by first | exact zp_iff (par2_n (sk_tg (by omega)).1) | exact zp_iff (par2_n (by unfold eTg; omega)) | exact zp_t ((par2_y (by unfold eTg; omega)).mpr (by assumption)) | exact zp_f (fun q => (par2_y (by unfold eTg; omega)).mp q (by assumption))
                                      have hl9 : lv_has ls 7 [(4, .int (nI (i + 1))), (3, .int (pI (par2 (eTg n X Y px.toInt py.toInt) (i + 1)))), (0, .ref r), (1, .int px), (2, .int py)] := by rw [e9_3]; exact hl9
                                      exact ih_5 (i + 1) H locs ls (by omega) (by omega) (by intro k hk; rcases Nat.lt_or_ge k i with h | h; exact hno k h; have e9 : k = i := (by omega); subst e9; first | exact (sk_tg (by omega)).2 | (unfold eOn onS; unfold eCr at *; omega)) hP hD hS hl9
                                    · have c_266 : ¬ (par2 (eTg n X Y px.toInt py.toInt) i) := zp_0 c_266
                                      refine lv_iconst (v := 1) hx hb dX7_where_260 (by decide) ?_
                                      refine lv_goto (tgt := 265) hx hb dX7_where_261 (by decide) ?_
                                      refine lv_istore_n (lv' := [(3, .int 1), (6, .int (iI (eCr n X Y i px.toInt py.toInt))), (5, .int (nI (nxt n i))), (4, .int (nI i)), (0, .ref r), (1, .int px), (2, .int py)]) hx hb dX7_where_265 rfl hl (by decide) rfl (fun ls hl => ?_)
                                      refine lv_iinc (v := nI (i + 1)) (lv' := [(4, .int (nI (i + 1))), (3, .int 1), (6, .int (iI (eCr n X Y i px.toInt py.toInt))), (5, .int (nI (nxt n i))), (0, .ref r), (1, .int px), (2, .int py)]) hx hb dX7_where_266 hl (k := 3) rfl (nI_add i 1) (by decide) rfl (fun ls hl => ?_)
                                      refine lv_goto (tgt := 5) hx hb dX7_where_269 (by decide) ?_
                                      have hl9 := lv_sub hl [0, 1, 4, 5, 6] rfl
                                      have e9_3 : pI (par2 (eTg n X Y px.toInt py.toInt) (i + 1)) = (1 : Int32) := by first | exact zp_iff (par2_n (sk_tg (by omega)).1) | exact zp_iff (par2_n (by unfold eTg; omega)) | exact zp_t ((par2_y (by unfold eTg; omega)).mpr (by assumption)) | exact zp_f (fun q => (par2_y (by unfold eTg; omega)).mp q (by assumption))
                                      have hl9 : lv_has ls 7 [(4, .int (nI (i + 1))), (3, .int (pI (par2 (eTg n X Y px.toInt py.toInt) (i + 1)))), (0, .ref r), (1, .int px), (2, .int py)] := by rw [e9_3]; exact hl9
                                      exact ih_5 (i + 1) H locs ls (by omega) (by omega) (by intro k hk; rcases Nat.lt_or_ge k i with h | h; exact hno k h; have e9 : k = i := (by omega); subst e9; first | exact (sk_tg (by omega)).2 | (unfold eOn onS; unfold eCr at *; omega)) hP hD hS hl9
                        · have c_254 : py.toInt < (Y i).toInt := zc_nle rfl rfl c_254
                          refine lv_iconst (v := 1) hx hb dX7_where_197 (by decide) ?_
                          refine lv_goto (tgt := 202) hx hb dX7_where_198 (by decide) ?_
                          refine lv_aload_n hx hb dX7_where_202 rfl (lv_at hl 4 rfl) ?_
                          refine va_get (D := (dC, dI)) (ci := 6) (v := .ref ry) (C := RX7) (T := TX7) (N := 4) hx hb hts inX7 hown hK hP 0 rfl rfl 1 (by decide) (hts _ mw_168) (fun _ h9 => h9) rfl dX7_where_203 ?_
                          refine lv_iload hx hb dX7_where_206 (lv_at hl 1 rfl) ?_
                          refine z_iald hx hb hK hP 2 0 rfl rfl (e := nxt n i) rfl (by omega) (by omega) dX7_where_208 ?_
                          refine lv_iload_n hx hb dX7_where_209 rfl (lv_at hl 6 rfl) ?_
                          refine lv_icmp_le (tgt := 217) hx hb dX7_where_210 (by decide) (fun c_267 => ?_) (fun c_267 => ?_)
                          · have c_267 : (Y (nxt n i)).toInt ≤ py.toInt := zc_le rfl rfl c_267
                            refine lv_iconst (v := 0) hx hb dX7_where_217 (by decide) ?_
                            refine lv_icmp_eq (tgt := 266) hx hb dX7_where_218 (by decide) (fun c_268 => ?_) (fun c_268 => ?_)
                            · exact absurd c_268 (by decide)
                            · have c_268 : ¬ 1 = 0 := zc_ne (by decide) (by decide) c_268
                              refine lv_iload hx hb dX7_where_221 (lv_at hl 0 rfl) ?_
                              refine lv_if_le (tgt := 230) hx hb dX7_where_223 (by decide) (fun c_269 => ?_) (fun c_269 => ?_)
                              · have c_269 : (eCr n X Y i px.toInt py.toInt) ≤ 0 := zc_le (iI_toInt (by omega)) (by decide) c_269
                                refine lv_iconst (v := 0) hx hb dX7_where_230 (by decide) ?_
                                refine lv_aload_n hx hb dX7_where_231 rfl (lv_at hl 4 rfl) ?_
                                refine va_get (D := (dC, dI)) (ci := 6) (v := .ref ry) (C := RX7) (T := TX7) (N := 4) hx hb hts inX7 hown hK hP 0 rfl rfl 1 (by decide) (hts _ mw_168) (fun _ h9 => h9) rfl dX7_where_232 ?_
                                refine lv_iload hx hb dX7_where_235 (lv_at hl 1 rfl) ?_
                                refine z_iald hx hb hK hP 2 0 rfl rfl (e := nxt n i) rfl (by omega) (by omega) dX7_where_237 ?_
                                refine lv_aload_n hx hb dX7_where_238 rfl (lv_at hl 4 rfl) ?_
                                refine va_get (D := (dC, dI)) (ci := 6) (v := .ref ry) (C := RX7) (T := TX7) (N := 4) hx hb hts inX7 hown hK hP 0 rfl rfl 1 (by decide) (hts _ mw_168) (fun _ h9 => h9) rfl dX7_where_239 ?_
                                refine lv_iload hx hb dX7_where_242 (lv_at hl 2 rfl) ?_
                                refine z_iald hx hb hK hP 2 0 rfl rfl (e := i) rfl (by omega) (by omega) dX7_where_244 ?_
                                refine lv_icmp_le (tgt := 252) hx hb dX7_where_245 (by decide) (fun c_270 => ?_) (fun c_270 => ?_)
                                · have c_270 : (Y (nxt n i)).toInt ≤ (Y i).toInt := zc_le rfl rfl c_270
                                  refine lv_iconst (v := 0) hx hb dX7_where_252 (by decide) ?_
                                  refine lv_icmp_ne (tgt := 266) hx hb dX7_where_253 (by decide) (fun c_271 => ?_) (fun c_271 => ?_)
                                  · exact absurd (by decide) c_271
                                  · have c_271 : 0 = 0 := zc_eq (by decide) (by decide) c_271
                                    refine lv_iload_n hx hb dX7_where_256 rfl (lv_at hl 3 rfl) ?_
                                    refine lv_if_ne (tgt := 264) hx hb dX7_where_257 (by decide) (fun c_272 => ?_) (fun c_272 => ?_)
                                    · have c_272 : par2 (eTg n X Y px.toInt py.toInt) i := zp_1 c_272
                                      refine lv_iconst (v := 0) hx hb dX7_where_264 (by decide) ?_
                                      refine lv_istore_n (lv' := [(3, .int 0), (6, .int (iI (eCr n X Y i px.toInt py.toInt))), (5, .int (nI (nxt n i))), (4, .int (nI i)), (0, .ref r), (1, .int px), (2, .int py)]) hx hb dX7_where_265 rfl hl (by decide) rfl (fun ls hl => ?_)
                                      refine lv_iinc (v := nI (i + 1)) (lv' := [(4, .int (nI (i + 1))), (3, .int 0), (6, .int (iI (eCr n X Y i px.toInt py.toInt))), (5, .int (nI (nxt n i))), (0, .ref r), (1, .int px), (2, .int py)]) hx hb dX7_where_266 hl (k := 3) rfl (nI_add i 1) (by decide) rfl (fun ls hl => ?_)
                                      refine lv_goto (tgt := 5) hx hb dX7_where_269 (by decide) ?_
                                      have hl9 := lv_sub hl [0, 1, 4, 5, 6] rfl
                                      have e9_3 : pI (par2 (eTg n X Y px.toInt py.toInt) (i + 1)) = (0 : Int32) := by first | exact zp_iff (par2_n (sk_tg (by omega)).1) | exact zp_iff (par2_n (by unfold eTg; omega)) | exact zp_t ((par2_y (by unfold eTg; omega)).mpr (by assumption)) | exact zp_f (fun q => (par2_y (by unfold eTg; omega)).mp q (by assumption))
                                      have hl9 : lv_has ls 7 [(4, .int (nI (i + 1))), (3, .int (pI (par2 (eTg n X Y px.toInt py.toInt) (i + 1)))), (0, .ref r), (1, .int px), (2, .int py)] := by rw [e9_3]; exact hl9
                                      exact ih_5 (i + 1) H locs ls (by omega) (by omega) (by intro k hk; rcases Nat.lt_or_ge k i with h | h; exact hno k h; have e9 : k = i := (by omega); subst e9; first | exact (sk_tg (by omega)).2 | (unfold eOn onS; unfold eCr at *; omega)) hP hD hS hl9
                                    · have c_272 : ¬ (par2 (eTg n X Y px.toInt py.toInt) i) := zp_0 c_272
                                      refine lv_iconst (v := 1) hx hb dX7_where_260 (by decide) ?_
                                      refine lv_goto (tgt := 265) hx hb dX7_where_261 (by decide) ?_
                                      refine lv_istore_n (lv' := [(3, .int 1), (6, .int (iI (eCr n X Y i px.toInt py.toInt))), (5, .int (nI (nxt n i))), (4, .int (nI i)), (0, .ref r), (1, .int px), (2, .int py)]) hx hb dX7_where_265 rfl hl (by decide) rfl (fun ls hl => ?_)
                                      refine lv_iinc (v := nI (i + 1)) (lv' := [(4, .int (nI (i + 1))), (3, .int 1), (6, .int (iI (eCr n X Y i px.toInt py.toInt))), (5, .int (nI (nxt n i))), (0, .ref r), (1, .int px), (2, .int py)]) hx hb dX7_where_266 hl (k := 3) rfl (nI_add i 1) (by decide) rfl (fun ls hl => ?_)
                                      refine lv_goto (tgt := 5) hx hb dX7_where_269 (by decide) ?_
                                      have hl9 := lv_sub hl [0, 1, 4, 5, 6] rfl
                                      have e9_3 : pI (par2 (eTg n X Y px.toInt py.toInt) (i + 1)) = (1 : Int32) := by first | exact zp_iff (par2_n (sk_tg (by omega)).1) | exact zp_iff (par2_n (by unfold eTg; omega)) | exact zp_t ((par2_y (by unfold eTg; omega)).mpr (by assumption)) | exact zp_f (fun q => (par2_y (by unfold eTg; omega)).mp q (by assumption))
                                      have hl9 : lv_has ls 7 [(4, .int (nI (i + 1))), (3, .int (pI (par2 (eTg n X Y px.toInt py.toInt) (i + 1)))), (0, .ref r), (1, .int px), (2, .int py)] := by rw [e9_3]; exact hl9
                                      exact ih_5 (i + 1) H locs ls (by omega) (by omega) (by intro k hk; rcases Nat.lt_or_ge k i with h | h; exact hno k h; have e9 : k = i := (by omega); subst e9; first | exact (sk_tg (by omega)).2 | (unfold eOn onS; unfold eCr at *; omega)) hP hD hS hl9
                                · have c_270 : (Y i).toInt < (Y (nxt n i)).toInt := zc_nle rfl rfl c_270
                                  refine lv_iconst (v := 1) hx hb dX7_where_248 (by decide) ?_
                                  refine lv_goto (tgt := 253) hx hb dX7_where_249 (by decide) ?_
                                  refine lv_icmp_ne (tgt := 266) hx hb dX7_where_253 (by decide) (fun c_273 => ?_) (fun c_273 => ?_)
                                  · have c_273 : ¬ 0 = 1 := zc_ne (by decide) (by decide) c_273
                                    refine lv_iinc (v := nI (i + 1)) (lv' := [(4, .int (nI (i + 1))), (6, .int (iI (eCr n X Y i px.toInt py.toInt))), (5, .int (nI (nxt n i))), (3, .int (pI (par2 (eTg n X Y px.toInt py.toInt) i))), (0, .ref r), (1, .int px), (2, .int py)]) hx hb dX7_where_266 hl (k := 2) rfl (nI_add i 1) (by decide) rfl (fun ls hl => ?_)
                                    refine lv_goto (tgt := 5) hx hb dX7_where_269 (by decide) ?_
                                    have hl9 := lv_sub hl [0, 3, 4, 5, 6] rfl
                                    have e9_3 : pI (par2 (eTg n X Y px.toInt py.toInt) (i + 1)) = (pI (par2 (eTg n X Y px.toInt py.toInt) i) : Int32) := by first | exact zp_iff (par2_n (sk_tg (by omega)).1) | exact zp_iff (par2_n (by unfold eTg; omega)) | exact zp_t ((par2_y (by unfold eTg; omega)).mpr (by assumption)) | exact zp_f (fun q => (par2_y (by unfold eTg; omega)).mp q (by assumption))
                                    have hl9 : lv_has ls 7 [(4, .int (nI (i + 1))), (3, .int (pI (par2 (eTg n X Y px.toInt py.toInt) (i + 1)))), (0, .ref r), (1, .int px), (2, .int py)] := by rw [e9_3]; exact hl9
                                    exact ih_5 (i + 1) H locs ls (by omega) (by omega) (by intro k hk; rcases Nat.lt_or_ge k i with h | h; exact hno k h; have e9 : k = i := (by omega); subst e9; first | exact (sk_tg (by omega)).2 | (unfold eOn onS; unfold eCr at *; omega)) hP hD hS hl9
                                  · exact absurd c_273 (by decide)
                              · have c_269 : 0 < (eCr n X Y i px.toInt py.toInt) := zc_nle (iI_toInt (by omega)) (by decide) c_269
                                refine lv_iconst (v := 1) hx hb dX7_where_226 (by decide) ?_
                                refine lv_goto (tgt := 231) hx hb dX7_where_227 (by decide) ?_
                                refine lv_aload_n hx hb dX7_where_231 rfl (lv_at hl 4 rfl) ?_
                                refine va_get (D := (dC, dI)) (ci := 6) (v := .ref ry) (C := RX7) (T := TX7) (N := 4) hx hb hts inX7 hown hK hP 0 rfl rfl 1 (by decide) (hts _ mw_168) (fun _ h9 => h9) rfl dX7_where_232 ?_
                                refine lv_iload hx hb dX7_where_235 (lv_at hl 1 rfl) ?_
                                refine z_iald hx hb hK hP 2 0 rfl rfl (e := nxt n i) rfl (by omega) (by omega) dX7_where_237 ?_
                                refine lv_aload_n hx hb dX7_where_238 rfl (lv_at hl 4 rfl) ?_
                                refine va_get (D := (dC, dI)) (ci := 6) (v := .ref ry) (C := RX7) (T := TX7) (N := 4) hx hb hts inX7 hown hK hP 0 rfl rfl 1 (by decide) (hts _ mw_168) (fun _ h9 => h9) rfl dX7_where_239 ?_
                                refine lv_iload hx hb dX7_where_242 (lv_at hl 2 rfl) ?_
                                refine z_iald hx hb hK hP 2 0 rfl rfl (e := i) rfl (by omega) (by omega) dX7_where_244 ?_
                                refine lv_icmp_le (tgt := 252) hx hb dX7_where_245 (by decide) (fun c_274 => ?_) (fun c_274 => ?_)
                                · have c_274 : (Y (nxt n i)).toInt ≤ (Y i).toInt := zc_le rfl rfl c_274
                                  refine lv_iconst (v := 0) hx hb dX7_where_252 (by decide) ?_
                                  refine lv_icmp_ne (tgt := 266) hx hb dX7_where_253 (by decide) (fun c_275 => ?_) (fun c_275 => ?_)
                                  · have c_275 : ¬ 1 = 0 := zc_ne (by decide) (by decide) c_275
                                    refine lv_iinc (v := nI (i + 1)) (lv' := [(4, .int (nI (i + 1))), (6, .int (iI (eCr n X Y i px.toInt py.toInt))), (5, .int (nI (nxt n i))), (3, .int (pI (par2 (eTg n X Y px.toInt py.toInt) i))), (0, .ref r), (1, .int px), (2, .int py)]) hx hb dX7_where_266 hl (k := 2) rfl (nI_add i 1) (by decide) rfl (fun ls hl => ?_)
                                    refine lv_goto (tgt := 5) hx hb dX7_where_269 (by decide) ?_
                                    have hl9 := lv_sub hl [0, 3, 4, 5, 6] rfl
                                    have e9_3 : pI (par2 (eTg n X Y px.toInt py.toInt) (i + 1)) = (pI (par2 (eTg n X Y px.toInt py.toInt) i) : Int32) := by first | exact zp_iff (par2_n (sk_tg (by omega)).1) | exact zp_iff (par2_n (by unfold eTg; omega)) | exact zp_t ((par2_y (by unfold eTg; omega)).mpr (by assumption)) | exact zp_f (fun q => (par2_y (by unfold eTg; omega)).mp q (by assumption))
                                    have hl9 : lv_has ls 7 [(4, .int (nI (i + 1))), (3, .int (pI (par2 (eTg n X Y px.toInt py.toInt) (i + 1)))), (0, .ref r), (1, .int px), (2, .int py)] := by rw [e9_3]; exact hl9
                                    exact ih_5 (i + 1) H locs ls (by omega) (by omega) (by intro k hk; rcases Nat.lt_or_ge k i with h | h; exact hno k h; have e9 : k = i := (by omega); subst e9; first | exact (sk_tg (by omega)).2 | (unfold eOn onS; unfold eCr at *; omega)) hP hD hS hl9
                                  · exact absurd c_275 (by decide)
                                · have c_274 : (Y i).toInt < (Y (nxt n i)).toInt := zc_nle rfl rfl c_274
                                  refine lv_iconst (v := 1) hx hb dX7_where_248 (by decide) ?_
                                  refine lv_goto (tgt := 253) hx hb dX7_where_249 (by decide) ?_
                                  refine lv_icmp_ne (tgt := 266) hx hb dX7_where_253 (by decide) (fun c_276 => ?_) (fun c_276 => ?_)
                                  · exact absurd (by decide) c_276
                                  · have c_276 : 1 = 1 := zc_eq (by decide) (by decide) c_276
                                    refine lv_iload_n hx hb dX7_where_256 rfl (lv_at hl 3 rfl) ?_
                                    refine lv_if_ne (tgt := 264) hx hb dX7_where_257 (by decide) (fun c_277 => ?_) (fun c_277 => ?_)
                                    · have c_277 : par2 (eTg n X Y px.toInt py.toInt) i := zp_1 c_277
                                      refine lv_iconst (v := 0) hx hb dX7_where_264 (by decide) ?_
                                      refine lv_istore_n (lv' := [(3, .int 0), (6, .int (iI (eCr n X Y i px.toInt py.toInt))), (5, .int (nI (nxt n i))), (4, .int (nI i)), (0, .ref r), (1, .int px), (2, .int py)]) hx hb dX7_where_265 rfl hl (by decide) rfl (fun ls hl => ?_)
                                      refine lv_iinc (v := nI (i + 1)) (lv' := [(4, .int (nI (i + 1))), (3, .int 0), (6, .int (iI (eCr n X Y i px.toInt py.toInt))), (5, .int (nI (nxt n i))), (0, .ref r), (1, .int px), (2, .int py)]) hx hb dX7_where_266 hl (k := 3) rfl (nI_add i 1) (by decide) rfl (fun ls hl => ?_)
                                      refine lv_goto (tgt := 5) hx hb dX7_where_269 (by decide) ?_
                                      have hl9 := lv_sub hl [0, 1, 4, 5, 6] rfl
                                      have e9_3 : pI (par2 (eTg n X Y px.toInt py.toInt) (i + 1)) = (0 : Int32) := by first | exact zp_iff (par2_n (sk_tg (by omega)).1) | exact zp_iff (par2_n (by unfold eTg; omega)) | exact zp_t ((par2_y (by unfold eTg; omega)).mpr (by assumption)) | exact zp_f (fun q => (par2_y (by unfold eTg; omega)).mp q (by assumption))
                                      have hl9 : lv_has ls 7 [(4, .int (nI (i + 1))), (3, .int (pI (par2 (eTg n X Y px.toInt py.toInt) (i + 1)))), (0, .ref r), (1, .int px), (2, .int py)] := by rw [e9_3]; exact hl9
                                      exact ih_5 (i + 1) H locs ls (by omega) (by omega) (by intro k hk; rcases Nat.lt_or_ge k i with h | h; exact hno k h; have e9 : k = i := (by omega); subst e9; first | exact (sk_tg (by omega)).2 | (unfold eOn onS; unfold eCr at *; omega)) hP hD hS hl9
                                    · have c_277 : ¬ (par2 (eTg n X Y px.toInt py.toInt) i) := zp_0 c_277
                                      refine lv_iconst (v := 1) hx hb dX7_where_260 (by decide) ?_
                                      refine lv_goto (tgt := 265) hx hb dX7_where_261 (by decide) ?_
                                      refine lv_istore_n (lv' := [(3, .int 1), (6, .int (iI (eCr n X Y i px.toInt py.toInt))), (5, .int (nI (nxt n i))), (4, .int (nI i)), (0, .ref r), (1, .int px), (2, .int py)]) hx hb dX7_where_265 rfl hl (by decide) rfl (fun ls hl => ?_)
                                      refine lv_iinc (v := nI (i + 1)) (lv' := [(4, .int (nI (i + 1))), (3, .int 1), (6, .int (iI (eCr n X Y i px.toInt py.toInt))), (5, .int (nI (nxt n i))), (0, .ref r), (1, .int px), (2, .int py)]) hx hb dX7_where_266 hl (k := 3) rfl (nI_add i 1) (by decide) rfl (fun ls hl => ?_)
                                      refine lv_goto (tgt := 5) hx hb dX7_where_269 (by decide) ?_
                                      have hl9 := lv_sub hl [0, 1, 4, 5, 6] rfl
                                      have e9_3 : pI (par2 (eTg n X Y px.toInt py.toInt) (i + 1)) = (1 : Int32) := by first | exact zp_iff (par2_n (sk_tg (by omega)).1) | exact zp_iff (par2_n (by unfold eTg; omega)) | exact zp_t ((par2_y (by unfold eTg; omega)).mpr (by assumption)) | exact zp_f (fun q => (par2_y (by unfold eTg; omega)).mp q (by assumption))
                                      have hl9 : lv_has ls 7 [(4, .int (nI (i + 1))), (3, .int (pI (par2 (eTg n X Y px.toInt py.toInt) (i + 1)))), (0, .ref r), (1, .int px), (2, .int py)] := by rw [e9_3]; exact hl9
                                      exact ih_5 (i + 1) H locs ls (by omega) (by omega) (by intro k hk; rcases Nat.lt_or_ge k i with h | h; exact hno k h; have e9 : k = i := (by omega); subst e9; first | exact (sk_tg (by omega)).2 | (unfold eOn onS; unfold eCr at *; omega)) hP hD hS hl9
                          · have c_267 : py.toInt < (Y (nxt n i)).toInt := zc_nle rfl rfl c_267
                            refine lv_iconst (v := 1) hx hb dX7_where_213 (by decide) ?_
                            refine lv_goto (tgt := 218) hx hb dX7_where_214 (by decide) ?_
                            refine lv_icmp_eq (tgt := 266) hx hb dX7_where_218 (by decide) (fun c_278 => ?_) (fun c_278 => ?_)
                            · have c_278 : 1 = 1 := zc_eq (by decide) (by decide) c_278
                              refine lv_iinc (v := nI (i + 1)) (lv' := [(4, .int (nI (i + 1))), (6, .int (iI (eCr n X Y i px.toInt py.toInt))), (5, .int (nI (nxt n i))), (3, .int (pI (par2 (eTg n X Y px.toInt py.toInt) i))), (0, .ref r), (1, .int px), (2, .int py)]) hx hb dX7_where_266 hl (k := 2) rfl (nI_add i 1) (by decide) rfl (fun ls hl => ?_)
                              refine lv_goto (tgt := 5) hx hb dX7_where_269 (by decide) ?_
                              have hl9 := lv_sub hl [0, 3, 4, 5, 6] rfl
                              have e9_3 : pI (par2 (eTg n X Y px.toInt py.toInt) (i + 1)) = (pI (par2 (eTg n X Y px.toInt py.toInt) i) : Int32) := by first | exact zp_iff (par2_n (sk_tg (by omega)).1) | exact zp_iff (par2_n (by unfold eTg; omega)) | exact zp_t ((par2_y (by unfold eTg; omega)).mpr (by assumption)) | exact zp_f (fun q => (par2_y (by unfold eTg; omega)).mp q (by assumption))
                              have hl9 : lv_has ls 7 [(4, .int (nI (i + 1))), (3, .int (pI (par2 (eTg n X Y px.toInt py.toInt) (i + 1)))), (0, .ref r), (1, .int px), (2, .int py)] := by rw [e9_3]; exact hl9
                              exact ih_5 (i + 1) H locs ls (by omega) (by omega) (by intro k hk; rcases Nat.lt_or_ge k i with h | h; exact hno k h; have e9 : k = i := (by omega); subst e9; first | exact (sk_tg (by omega)).2 | (unfold eOn onS; unfold eCr at *; omega)) hP hD hS hl9
                            · exact absurd (by decide) c_278
                      · have c_253 : (X (nxt n i)).toInt ≤ px.toInt := zc_nlt rfl rfl c_253
                        refine lv_iconst (v := 2) hx hb dX7_where_184 (by decide) ?_
                        have hP9 := hP.sub (ws' := [(r, .inr (6, [.ref rx, .ref ry, .int (nI n), .int rg])), (rx, .inl (cI, cap, .inl X)), (ry, .inl (cI, cap, .inl Y))]) [0, 1, 2] rfl
                        have hD9 := hD.sub (ws' := [(r, .inr (6, [.ref rx, .ref ry, .int (nI n), .int rg])), (rx, .inl (cI, cap, .inl X)), (ry, .inl (cI, cap, .inl Y))]) [0, 1, 2] (by decide) rfl
                        rw [hQ9]
                        exact W.iret (v := 2) hx hb hr (fun t ht hW => ⟨⟨congrArg (fun z => Outcome.returned (some (Value.int z))) (show (2 : Int32) = whr n X Y px.toInt py.toInt from (whr_2 ⟨i, by omega, by unfold eOn onS; unfold eCr at *; omega⟩).symm), by rw [ht]; exact hP9, hD9⟩, hS.F ht⟩) hS.2.2 dX7_where_185
                · have c_225 : (X i).toInt < px.toInt := zc_nle rfl rfl c_225
                  refine lv_aload_n hx hb dX7_where_90 rfl (lv_at hl 3 rfl) ?_
                  refine va_get (D := (dC, dI)) (ci := 6) (v := .ref rx) (C := RX7) (T := TX7) (N := 4) hx hb hts inX7 hown hK hP 0 rfl rfl 0 (by decide) (hts _ mw_161) (fun _ h9 => h9) rfl dX7_where_91 ?_
                  refine lv_iload hx hb dX7_where_94 (lv_at hl 0 rfl) ?_
                  refine z_iald hx hb hK hP 1 0 rfl rfl (e := nxt n i) rfl (by omega) (by omega) dX7_where_96 ?_
                  refine lv_iload_n hx hb dX7_where_97 rfl (lv_at hl 4 rfl) ?_
                  refine lv_icmp_ge (tgt := 104) hx hb dX7_where_98 (by decide) (fun c_279 => ?_) (fun c_279 => ?_)
                  · have c_279 : px.toInt ≤ (X (nxt n i)).toInt := zc_le rfl rfl c_279
                    refine lv_aload_n hx hb dX7_where_104 rfl (lv_at hl 3 rfl) ?_
                    refine va_get (D := (dC, dI)) (ci := 6) (v := .ref rx) (C := RX7) (T := TX7) (N := 4) hx hb hts inX7 hown hK hP 0 rfl rfl 0 (by decide) (hts _ mw_161) (fun _ h9 => h9) rfl dX7_where_105 ?_
                    refine lv_iload hx hb dX7_where_108 (lv_at hl 0 rfl) ?_
                    refine z_iald hx hb hK hP 1 0 rfl rfl (e := nxt n i) rfl (by omega) (by omega) dX7_where_110 ?_
                    refine lv_aload_n hx hb dX7_where_111 rfl (lv_at hl 3 rfl) ?_
                    refine va_get (D := (dC, dI)) (ci := 6) (v := .ref rx) (C := RX7) (T := TX7) (N := 4) hx hb hts inX7 hown hK hP 0 rfl rfl 0 (by decide) (hts _ mw_161) (fun _ h9 => h9) rfl dX7_where_112 ?_
                    refine lv_iload hx hb dX7_where_115 (lv_at hl 1 rfl) ?_
                    refine z_iald hx hb hK hP 1 0 rfl rfl (e := i) rfl (by omega) (by omega) dX7_where_117 ?_
                    refine lv_isub hx hb dX7_where_118 ?_
                    refine lv_iload_n hx hb dX7_where_119 rfl (lv_at hl 5 rfl) ?_
                    refine lv_aload_n hx hb dX7_where_120 rfl (lv_at hl 3 rfl) ?_
                    refine va_get (D := (dC, dI)) (ci := 6) (v := .ref ry) (C := RX7) (T := TX7) (N := 4) hx hb hts inX7 hown hK hP 0 rfl rfl 1 (by decide) (hts _ mw_168) (fun _ h9 => h9) rfl dX7_where_121 ?_
                    refine lv_iload hx hb dX7_where_124 (lv_at hl 1 rfl) ?_
                    refine z_iald hx hb hK hP 2 0 rfl rfl (e := i) rfl (by omega) (by omega) dX7_where_126 ?_
                    refine lv_isub hx hb dX7_where_127 ?_
                    refine lv_imul hx hb dX7_where_128 ?_
                    refine lv_aload_n hx hb dX7_where_129 rfl (lv_at hl 3 rfl) ?_
                    refine va_get (D := (dC, dI)) (ci := 6) (v := .ref ry) (C := RX7) (T := TX7) (N := 4) hx hb hts inX7 hown hK hP 0 rfl rfl 1 (by decide) (hts _ mw_168) (fun _ h9 => h9) rfl dX7_where_130 ?_
                    refine lv_iload hx hb dX7_where_133 (lv_at hl 0 rfl) ?_
                    refine z_iald hx hb hK hP 2 0 rfl rfl (e := nxt n i) rfl (by omega) (by omega) dX7_where_135 ?_
                    refine lv_aload_n hx hb dX7_where_136 rfl (lv_at hl 3 rfl) ?_
                    refine va_get (D := (dC, dI)) (ci := 6) (v := .ref ry) (C := RX7) (T := TX7) (N := 4) hx hb hts inX7 hown hK hP 0 rfl rfl 1 (by decide) (hts _ mw_168) (fun _ h9 => h9) rfl dX7_where_137 ?_
                    refine lv_iload hx hb dX7_where_140 (lv_at hl 1 rfl) ?_
                    refine z_iald hx hb hK hP 2 0 rfl rfl (e := i) rfl (by omega) (by omega) dX7_where_142 ?_
                    refine lv_isub hx hb dX7_where_143 ?_
                    refine lv_iload_n hx hb dX7_where_144 rfl (lv_at hl 4 rfl) ?_
                    refine lv_aload_n hx hb dX7_where_145 rfl (lv_at hl 3 rfl) ?_
                    refine va_get (D := (dC, dI)) (ci := 6) (v := .ref rx) (C := RX7) (T := TX7) (N := 4) hx hb hts inX7 hown hK hP 0 rfl rfl 0 (by decide) (hts _ mw_161) (fun _ h9 => h9) rfl dX7_where_146 ?_
                    refine lv_iload hx hb dX7_where_149 (lv_at hl 1 rfl) ?_
                    refine z_iald hx hb hK hP 1 0 rfl rfl (e := i) rfl (by omega) (by omega) dX7_where_151 ?_
                    refine lv_isub hx hb dX7_where_152 ?_
                    refine lv_imul hx hb dX7_where_153 ?_
                    refine lv_isub hx hb dX7_where_154 ?_
                    refine zz_i (v := iI (eCr n X Y i px.toInt py.toInt)) (crI (hp i (by omega)).1 (hp i (by omega)).2 (hp _ hnx).1 (hp _ hnx).2 hpx hpy) ?_
                    have hB1 := crBp (hp i (by omega)).1 (hp i (by omega)).2 (hp _ hnx).1 (hp _ hnx).2 hpx hpy
                    have hB1 : -2000000 ≤ eCr n X Y i px.toInt py.toInt ∧ eCr n X Y i px.toInt py.toInt ≤ 2000000 := hB1
                    refine lv_istore (lv' := [(6, .int (iI (eCr n X Y i px.toInt py.toInt))), (5, .int (nI (nxt n i))), (4, .int (nI i)), (3, .int (pI (par2 (eTg n X Y px.toInt py.toInt) i))), (0, .ref r), (1, .int px), (2, .int py)]) hx hb dX7_where_155 hl (by decide) rfl (fun ls hl => ?_)
                    refine lv_iload hx hb dX7_where_157 (lv_at hl 0 rfl) ?_
                    refine lv_if_ne (tgt := 186) hx hb dX7_where_159 (by decide) (fun c_280 => ?_) (fun c_280 => ?_)
                    · have c_280 : ¬ (eCr n X Y i px.toInt py.toInt) = 0 := zc_ne (iI_toInt (by omega)) (by decide) c_280
                      refine lv_aload_n hx hb dX7_where_186 rfl (lv_at hl 4 rfl) ?_
                      refine va_get (D := (dC, dI)) (ci := 6) (v := .ref ry) (C := RX7) (T := TX7) (N := 4) hx hb hts inX7 hown hK hP 0 rfl rfl 1 (by decide) (hts _ mw_168) (fun _ h9 => h9) rfl dX7_where_187 ?_
                      refine lv_iload hx hb dX7_where_190 (lv_at hl 2 rfl) ?_
                      refine z_iald hx hb hK hP 2 0 rfl rfl (e := i) rfl (by omega) (by omega) dX7_where_192 ?_
                      refine lv_iload_n hx hb dX7_where_193 rfl (lv_at hl 6 rfl) ?_
                      refine lv_icmp_le (tgt := 201) hx hb dX7_where_194 (by decide) (fun c_281 => ?_) (fun c_281 => ?_)
                      · have c_281 : (Y i).toInt ≤ py.toInt := zc_le rfl rfl c_281
                        refine lv_iconst (v := 0) hx hb dX7_where_201 (by decide) ?_
                        refine lv_aload_n hx hb dX7_where_202 rfl (lv_at hl 4 rfl) ?_
                        refine va_get (D := (dC, dI)) (ci := 6) (v := .ref ry) (C := RX7) (T := TX7) (N := 4) hx hb hts inX7 hown hK hP 0 rfl rfl 1 (by decide) (hts _ mw_168) (fun _ h9 => h9) rfl dX7_where_203 ?_
                        refine lv_iload hx hb dX7_where_206 (lv_at hl 1 rfl) ?_
                        refine z_iald hx hb hK hP 2 0 rfl rfl (e := nxt n i) rfl (by omega) (by omega) dX7_where_208 ?_
                        refine lv_iload_n hx hb dX7_where_209 rfl (lv_at hl 6 rfl) ?_
                        refine lv_icmp_le (tgt := 217) hx hb dX7_where_210 (by decide) (fun c_282 => ?_) (fun c_282 => ?_)
                        · have c_282 : (Y (nxt n i)).toInt ≤ py.toInt := zc_le rfl rfl c_282
                          refine lv_iconst (v := 0) hx hb dX7_where_217 (by decide) ?_
                          refine lv_icmp_eq (tgt := 266) hx hb dX7_where_218 (by decide) (fun c_283 => ?_) (fun c_283 => ?_)
                          · have c_283 : 0 = 0 := zc_eq (by decide) (by decide) c_283
                            refine lv_iinc (v := nI (i + 1)) (lv' := [(4, .int (nI (i + 1))), (6, .int (iI (eCr n X Y i px.toInt py.toInt))), (5, .int (nI (nxt n i))), (3, .int (pI (par2 (eTg n X Y px.toInt py.toInt) i))), (0, .ref r), (1, .int px), (2, .int py)]) hx hb dX7_where_266 hl (k := 2) rfl (nI_add i 1) (by decide) rfl (fun ls hl => ?_)
                            refine lv_goto (tgt := 5) hx hb dX7_where_269 (by decide) ?_
                            have hl9 := lv_sub hl [0, 3, 4, 5, 6] rfl
                            have e9_3 : pI (par2 (eTg n X Y px.toInt py.toInt) (i + 1)) = (pI (par2 (eTg n X Y px.toInt py.toInt) i) : Int32) := by first | exact zp_iff (par2_n (sk_tg (by omega)).1) | exact zp_iff (par2_n (by unfold eTg; omega)) | exact zp_t ((par2_y (by unfold eTg; omega)).mpr (by assumption)) | exact zp_f (fun q => (par2_y (by unfold eTg; omega)).mp q (by assumption))
                            have hl9 : lv_has ls 7 [(4, .int (nI (i + 1))), (3, .int (pI (par2 (eTg n X Y px.toInt py.toInt) (i + 1)))), (0, .ref r), (1, .int px), (2, .int py)] := by rw [e9_3]; exact hl9
                            exact ih_5 (i + 1) H locs ls (by omega) (by omega) (by intro k hk; rcases Nat.lt_or_ge k i with h | h; exact hno k h; have e9 : k = i := (by omega); subst e9; first | exact (sk_tg (by omega)).2 | (unfold eOn onS; unfold eCr at *; omega)) hP hD hS hl9
                          · exact absurd (by decide) c_283
                        · have c_282 : py.toInt < (Y (nxt n i)).toInt := zc_nle rfl rfl c_282
                          refine lv_iconst (v := 1) hx hb dX7_where_213 (by decide) ?_
                          refine lv_goto (tgt := 218) hx hb dX7_where_214 (by decide) ?_
                          refine lv_icmp_eq (tgt := 266) hx hb dX7_where_218 (by decide) (fun c_284 => ?_) (fun c_284 => ?_)
                          · exact absurd c_284 (by decide)
                          · have c_284 : ¬ 0 = 1 := zc_ne (by decide) (by decide) c_284
                            refine lv_iload hx hb dX7_where_221 (lv_at hl 0 rfl) ?_
                            refine lv_if_le (tgt := 230) hx hb dX7_where_223 (by decide) (fun c_285 => ?_) (fun c_285 => ?_)
                            · have c_285 : (eCr n X Y i px.toInt py.toInt) ≤ 0 := zc_le (iI_toInt (by omega)) (by decide) c_285
                              refine lv_iconst (v := 0) hx hb dX7_where_230 (by decide) ?_
                              refine lv_aload_n hx hb dX7_where_231 rfl (lv_at hl 4 rfl) ?_
                              refine va_get (D := (dC, dI)) (ci := 6) (v := .ref ry) (C := RX7) (T := TX7) (N := 4) hx hb hts inX7 hown hK hP 0 rfl rfl 1 (by decide) (hts _ mw_168) (fun _ h9 => h9) rfl dX7_where_232 ?_
                              refine lv_iload hx hb dX7_where_235 (lv_at hl 1 rfl) ?_
                              refine z_iald hx hb hK hP 2 0 rfl rfl (e := nxt n i) rfl (by omega) (by omega) dX7_where_237 ?_
                              refine lv_aload_n hx hb dX7_where_238 rfl (lv_at hl 4 rfl) ?_
                              refine va_get (D := (dC, dI)) (ci := 6) (v := .ref ry) (C := RX7) (T := TX7) (N := 4) hx hb hts inX7 hown hK hP 0 rfl rfl 1 (by decide) (hts _ mw_168) (fun _ h9 => h9) rfl dX7_where_239 ?_
                              refine lv_iload hx hb dX7_where_242 (lv_at hl 2 rfl) ?_
                              refine z_iald hx hb hK hP 2 0 rfl rfl (e := i) rfl (by omega) (by omega) dX7_where_244 ?_
                              refine lv_icmp_le (tgt := 252) hx hb dX7_where_245 (by decide) (fun c_286 => ?_) (fun c_286 => ?_)
                              · have c_286 : (Y (nxt n i)).toInt ≤ (Y i).toInt := zc_le rfl rfl c_286
                                refine lv_iconst (v := 0) hx hb dX7_where_252 (by decide) ?_
                                refine lv_icmp_ne (tgt := 266) hx hb dX7_where_253 (by decide) (fun c_287 => ?_) (fun c_287 => ?_)
                                · exact absurd (by decide) c_287
                                · have c_287 : 0 = 0 := zc_eq (by decide) (by decide) c_287
                                  refine lv_iload_n hx hb dX7_where_256 rfl (lv_at hl 3 rfl) ?_
                                  refine lv_if_ne (tgt := 264) hx hb dX7_where_257 (by decide) (fun c_288 => ?_) (fun c_288 => ?_)
                                  · have c_288 : par2 (eTg n X Y px.toInt py.toInt) i := zp_1 c_288
                                    refine lv_iconst (v := 0) hx hb dX7_where_264 (by decide) ?_
                                    refine lv_istore_n (lv' := [(3, .int 0), (6, .int (iI (eCr n X Y i px.toInt py.toInt))), (5, .int (nI (nxt n i))), (4, .int (nI i)), (0, .ref r), (1, .int px), (2, .int py)]) hx hb dX7_where_265 rfl hl (by decide) rfl (fun ls hl => ?_)
                                    refine lv_iinc (v := nI (i + 1)) (lv' := [(4, .int (nI (i + 1))), (3, .int 0), (6, .int (iI (eCr n X Y i px.toInt py.toInt))), (5, .int (nI (nxt n i))), (0, .ref r), (1, .int px), (2, .int py)]) hx hb dX7_where_266 hl (k := 3) rfl (nI_add i 1) (by decide) rfl (fun ls hl => ?_)
                                    refine lv_goto (tgt := 5) hx hb dX7_where_269 (by decide) ?_
                                    have hl9 := lv_sub hl [0, 1, 4, 5, 6] rfl
                                    have e9_3 : pI (par2 (eTg n X Y px.toInt py.toInt) (i + 1)) = (0 : Int32) := by first | exact zp_iff (par2_n (sk_tg (by omega)).1) | exact zp_iff (par2_n (by unfold eTg; omega)) | exact zp_t ((par2_y (by unfold eTg; omega)).mpr (by assumption)) | exact zp_f (fun q => (par2_y (by unfold eTg; omega)).mp q (by assumption))
                                    have hl9 : lv_has ls 7 [(4, .int (nI (i + 1))), (3, .int (pI (par2 (eTg n X Y px.toInt py.toInt) (i + 1)))), (0, .ref r), (1, .int px), (2, .int py)] := by rw [e9_3]; exact hl9
                                    exact ih_5 (i + 1) H locs ls (by omega) (by omega) (by intro k hk; rcases Nat.lt_or_ge k i with h | h; exact hno k h; have e9 : k = i := (by omega); subst e9; first | exact (sk_tg (by omega)).2 | (unfold eOn onS; unfold eCr at *; omega)) hP hD hS hl9
                                  · have c_288 : ¬ (par2 (eTg n X Y px.toInt py.toInt) i) := zp_0 c_288
                                    refine lv_iconst (v := 1) hx hb dX7_where_260 (by decide) ?_
                                    refine lv_goto (tgt := 265) hx hb dX7_where_261 (by decide) ?_
                                    refine lv_istore_n (lv' := [(3, .int 1), (6, .int (iI (eCr n X Y i px.toInt py.toInt))), (5, .int (nI (nxt n i))), (4, .int (nI i)), (0, .ref r), (1, .int px), (2, .int py)]) hx hb dX7_where_265 rfl hl (by decide) rfl (fun ls hl => ?_)
                                    refine lv_iinc (v := nI (i + 1)) (lv' := [(4, .int (nI (i + 1))), (3, .int 1), (6, .int (iI (eCr n X Y i px.toInt py.toInt))), (5, .int (nI (nxt n i))), (0, .ref r), (1, .int px), (2, .int py)]) hx hb dX7_where_266 hl (k := 3) rfl (nI_add i 1) (by decide) rfl (fun ls hl => ?_)
                                    refine lv_goto (tgt := 5) hx hb dX7_where_269 (by decide) ?_
                                    have hl9 := lv_sub hl [0, 1, 4, 5, 6] rfl
                                    have e9_3 : pI (par2 (eTg n X Y px.toInt py.toInt) (i + 1)) = (1 : Int32) := by first | exact zp_iff (par2_n (sk_tg (by omega)).1) | exact zp_iff (par2_n (by unfold eTg; omega)) | exact zp_t ((par2_y (by unfold eTg; omega)).mpr (by assumption)) | exact zp_f (fun q => (par2_y (by unfold eTg; omega)).mp q (by assumption))
                                    have hl9 : lv_has ls 7 [(4, .int (nI (i + 1))), (3, .int (pI (par2 (eTg n X Y px.toInt py.toInt) (i + 1)))), (0, .ref r), (1, .int px), (2, .int py)] := by rw [e9_3]; exact hl9
                                    exact ih_5 (i + 1) H locs ls (by omega) (by omega) (by intro k hk; rcases Nat.lt_or_ge k i with h | h; exact hno k h; have e9 : k = i := (by omega); subst e9; first | exact (sk_tg (by omega)).2 | (unfold eOn onS; unfold eCr at *; omega)) hP hD hS hl9
                              · have c_286 : (Y i).toInt < (Y (nxt n i)).toInt := zc_nle rfl rfl c_286
                                refine lv_iconst (v := 1) hx hb dX7_where_248 (by decide) ?_
                                refine lv_goto (tgt := 253) hx hb dX7_where_249 (by decide) ?_
                                refine lv_icmp_ne (tgt := 266) hx hb dX7_where_253 (by decide) (fun c_289 => ?_) (fun c_289 => ?_)
                                · have c_289 : ¬ 0 = 1 := zc_ne (by decide) (by decide) c_289
                                  refine lv_iinc (v := nI (i + 1)) (lv' := [(4, .int (nI (i + 1))), (6, .int (iI (eCr n X Y i px.toInt py.toInt))), (5, .int (nI (nxt n i))), (3, .int (pI (par2 (eTg n X Y px.toInt py.toInt) i))), (0, .ref r), (1, .int px), (2, .int py)]) hx hb dX7_where_266 hl (k := 2) rfl (nI_add i 1) (by decide) rfl (fun ls hl => ?_)
                                  refine lv_goto (tgt := 5) hx hb dX7_where_269 (by decide) ?_
                                  have hl9 := lv_sub hl [0, 3, 4, 5, 6] rfl
                                  have e9_3 : pI (par2 (eTg n X Y px.toInt py.toInt) (i + 1)) = (pI (par2 (eTg n X Y px.toInt py.toInt) i) : Int32) := by first | exact zp_iff (par2_n (sk_tg (by omega)).1) | exact zp_iff (par2_n (by unfold eTg; omega)) | exact zp_t ((par2_y (by unfold eTg; omega)).mpr (by assumption)) | exact zp_f (fun q => (par2_y (by unfold eTg; omega)).mp q (by assumption))
                                  have hl9 : lv_has ls 7 [(4, .int (nI (i + 1))), (3, .int (pI (par2 (eTg n X Y px.toInt py.toInt) (i + 1)))), (0, .ref r), (1, .int px), (2, .int py)] := by rw [e9_3]; exact hl9
                                  exact ih_5 (i + 1) H locs ls (by omega) (by omega) (by intro k hk; rcases Nat.lt_or_ge k i with h | h; exact hno k h; have e9 : k = i := (by omega); subst e9; first | exact (sk_tg (by omega)).2 | (unfold eOn onS; unfold eCr at *; omega)) hP hD hS hl9
                                · exact absurd c_289 (by decide)
                            · have c_285 : 0 < (eCr n X Y i px.toInt py.toInt) := zc_nle (iI_toInt (by omega)) (by decide) c_285
                              refine lv_iconst (v := 1) hx hb dX7_where_226 (by decide) ?_
                              refine lv_goto (tgt := 231) hx hb dX7_where_227 (by decide) ?_
                              refine lv_aload_n hx hb dX7_where_231 rfl (lv_at hl 4 rfl) ?_
                              refine va_get (D := (dC, dI)) (ci := 6) (v := .ref ry) (C := RX7) (T := TX7) (N := 4) hx hb hts inX7 hown hK hP 0 rfl rfl 1 (by decide) (hts _ mw_168) (fun _ h9 => h9) rfl dX7_where_232 ?_
                              refine lv_iload hx hb dX7_where_235 (lv_at hl 1 rfl) ?_
                              refine z_iald hx hb hK hP 2 0 rfl rfl (e := nxt n i) rfl (by omega) (by omega) dX7_where_237 ?_
                              refine lv_aload_n hx hb dX7_where_238 rfl (lv_at hl 4 rfl) ?_
                              refine va_get (D := (dC, dI)) (ci := 6) (v := .ref ry) (C := RX7) (T := TX7) (N := 4) hx hb hts inX7 hown hK hP 0 rfl rfl 1 (by decide) (hts _ mw_168) (fun _ h9 => h9) rfl dX7_where_239 ?_
                              refine lv_iload hx hb dX7_where_242 (lv_at hl 2 rfl) ?_
                              refine z_iald hx hb hK hP 2 0 rfl rfl (e := i) rfl (by omega) (by omega) dX7_where_244 ?_
                              refine lv_icmp_le (tgt := 252) hx hb dX7_where_245 (by decide) (fun c_290 => ?_) (fun c_290 => ?_)
                              · have c_290 : (Y (nxt n i)).toInt ≤ (Y i).toInt := zc_le rfl rfl c_290
                                refine lv_iconst (v := 0) hx hb dX7_where_252 (by decide) ?_
                                refine lv_icmp_ne (tgt := 266) hx hb dX7_where_253 (by decide) (fun c_291 => ?_) (fun c_291 => ?_)
                                · have c_291 : ¬ 1 = 0 := zc_ne (by decide) (by decide) c_291
                                  refine lv_iinc (v := nI (i + 1)) (lv' := [(4, .int (nI (i + 1))), (6, .int (iI (eCr n X Y i px.toInt py.toInt))), (5, .int (nI (nxt n i))), (3, .int (pI (par2 (eTg n X Y px.toInt py.toInt) i))), (0, .ref r), (1, .int px), (2, .int py)]) hx hb dX7_where_266 hl (k := 2) rfl (nI_add i 1) (by decide) rfl (fun ls hl => ?_)
                                  refine lv_goto (tgt := 5) hx hb dX7_where_269 (by decide) ?_
                                  have hl9 := lv_sub hl [0, 3, 4, 5, 6] rfl
                                  have e9_3 : pI (par2 (eTg n X Y px.toInt py.toInt) (i + 1)) = (pI (par2 (eTg n X Y px.toInt py.toInt) i) : Int32) := by first | exact zp_iff (par2_n (sk_tg (by omega)).1) | exact zp_iff (par2_n (by unfold eTg; omega)) | exact zp_t ((par2_y (by unfold eTg; omega)).mpr (by assumption)) | exact zp_f (fun q => (par2_y (by unfold eTg; omega)).mp q (by assumption))
                                  have hl9 : lv_has ls 7 [(4, .int (nI (i + 1))), (3, .int (pI (par2 (eTg n X Y px.toInt py.toInt) (i + 1)))), (0, .ref r), (1, .int px), (2, .int py)] := by rw [e9_3]; exact hl9
                                  exact ih_5 (i + 1) H locs ls (by omega) (by omega) (by intro k hk; rcases Nat.lt_or_ge k i with h | h; exact hno k h; have e9 : k = i := (by omega); subst e9; first | exact (sk_tg (by omega)).2 | (unfold eOn onS; unfold eCr at *; omega)) hP hD hS hl9
                                · exact absurd c_291 (by decide)
                              · have c_290 : (Y i).toInt < (Y (nxt n i)).toInt := zc_nle rfl rfl c_290
                                refine lv_iconst (v := 1) hx hb dX7_where_248 (by decide) ?_
                                refine lv_goto (tgt := 253) hx hb dX7_where_249 (by decide) ?_
                                refine lv_icmp_ne (tgt := 266) hx hb dX7_where_253 (by decide) (fun c_292 => ?_) (fun c_292 => ?_)
                                · exact absurd (by decide) c_292
                                · have c_292 : 1 = 1 := zc_eq (by decide) (by decide) c_292
                                  refine lv_iload_n hx hb dX7_where_256 rfl (lv_at hl 3 rfl) ?_
                                  refine lv_if_ne (tgt := 264) hx hb dX7_where_257 (by decide) (fun c_293 => ?_) (fun c_293 => ?_)
                                  · have c_293 : par2 (eTg n X Y px.toInt py.toInt) i := zp_1 c_293
                                    refine lv_iconst (v := 0) hx hb dX7_where_264 (by decide) ?_
                                    refine lv_istore_n (lv' := [(3, .int 0), (6, .int (iI (eCr n X Y i px.toInt py.toInt))), (5, .int (nI (nxt n i))), (4, .int (nI i)), (0, .ref r), (1, .int px), (2, .int py)]) hx hb dX7_where_265 rfl hl (by decide) rfl (fun ls hl => ?_)
                                    refine lv_iinc (v := nI (i + 1)) (lv' := [(4, .int (nI (i + 1))), (3, .int 0), (6, .int (iI (eCr n X Y i px.toInt py.toInt))), (5, .int (nI (nxt n i))), (0, .ref r), (1, .int px), (2, .int py)]) hx hb dX7_where_266 hl (k := 3) rfl (nI_add i 1) (by decide) rfl (fun ls hl => ?_)
                                    refine lv_goto (tgt := 5) hx hb dX7_where_269 (by decide) ?_
                                    have hl9 := lv_sub hl [0, 1, 4, 5, 6] rfl
                                    have e9_3 : pI (par2 (eTg n X Y px.toInt py.toInt) (i + 1)) = (0 : Int32) := by first | exact zp_iff (par2_n (sk_tg (by omega)).1) | exact zp_iff (par2_n (by unfold eTg; omega)) | exact zp_t ((par2_y (by unfold eTg; omega)).mpr (by assumption)) | exact zp_f (fun q => (par2_y (by unfold eTg; omega)).mp q (by assumption))
                                    have hl9 : lv_has ls 7 [(4, .int (nI (i + 1))), (3, .int (pI (par2 (eTg n X Y px.toInt py.toInt) (i + 1)))), (0, .ref r), (1, .int px), (2, .int py)] := by rw [e9_3]; exact hl9
                                    exact ih_5 (i + 1) H locs ls (by omega) (by omega) (by intro k hk; rcases Nat.lt_or_ge k i with h | h; exact hno k h; have e9 : k = i := (by omega); subst e9; first | exact (sk_tg (by omega)).2 | (unfold eOn onS; unfold eCr at *; omega)) hP hD hS hl9
                                  · have c_293 : ¬ (par2 (eTg n X Y px.toInt py.toInt) i) := zp_0 c_293
                                    refine lv_iconst (v := 1) hx hb dX7_where_260 (by decide) ?_
                                    refine lv_goto (tgt := 265) hx hb dX7_where_261 (by decide) ?_
                                    refine lv_istore_n (lv' := [(3, .int 1), (6, .int (iI (eCr n X Y i px.toInt py.toInt))), (5, .int (nI (nxt n i))), (4, .int (nI i)), (0, .ref r), (1, .int px), (2, .int py)]) hx hb dX7_where_265 rfl hl (by decide) rfl (fun ls hl => ?_)
                                    refine lv_iinc (v := nI (i + 1)) (lv' := [(4, .int (nI (i + 1))), (3, .int 1), (6, .int (iI (eCr n X Y i px.toInt py.toInt))), (5, .int (nI (nxt n i))), (0, .ref r), (1, .int px), (2, .int py)]) hx hb dX7_where_266 hl (k := 3) rfl (nI_add i 1) (by decide) rfl (fun ls hl => ?_)
                                    refine lv_goto (tgt := 5) hx hb dX7_where_269 (by decide) ?_
                                    have hl9 := lv_sub hl [0, 1, 4, 5, 6] rfl
                                    have e9_3 : pI (par2 (eTg n X Y px.toInt py.toInt) (i + 1)) = (1 : Int32) := by first | exact zp_iff (par2_n (sk_tg (by omega)).1) | exact zp_iff (par2_n (by unfold eTg; omega)) | exact zp_t ((par2_y (by unfold eTg; omega)).mpr (by assumption)) | exact zp_f (fun q => (par2_y (by unfold eTg; omega)).mp q (by assumption))
                                    have hl9 : lv_has ls 7 [(4, .int (nI (i + 1))), (3, .int (pI (par2 (eTg n X Y px.toInt py.toInt) (i + 1)))), (0, .ref r), (1, .int px), (2, .int py)] := by rw [e9_3]; exact hl9
                                    exact ih_5 (i + 1) H locs ls (by omega) (by omega) (by intro k hk; rcases Nat.lt_or_ge k i with h | h; exact hno k h; have e9 : k = i := (by omega); subst e9; first | exact (sk_tg (by omega)).2 | (unfold eOn onS; unfold eCr at *; omega)) hP hD hS hl9
                      · have c_281 : py.toInt < (Y i).toInt := zc_nle rfl rfl c_281
                        refine lv_iconst (v := 1) hx hb dX7_where_197 (by decide) ?_
                        refine lv_goto (tgt := 202) hx hb dX7_where_198 (by decide) ?_
                        refine lv_aload_n hx hb dX7_where_202 rfl (lv_at hl 4 rfl) ?_
                        refine va_get (D := (dC, dI)) (ci := 6) (v := .ref ry) (C := RX7) (T := TX7) (N := 4) hx hb hts inX7 hown hK hP 0 rfl rfl 1 (by decide) (hts _ mw_168) (fun _ h9 => h9) rfl dX7_where_203 ?_
                        refine lv_iload hx hb dX7_where_206 (lv_at hl 1 rfl) ?_
                        refine z_iald hx hb hK hP 2 0 rfl rfl (e := nxt n i) rfl (by omega) (by omega) dX7_where_208 ?_
                        refine lv_iload_n hx hb dX7_where_209 rfl (lv_at hl 6 rfl) ?_
                        refine lv_icmp_le (tgt := 217) hx hb dX7_where_210 (by decide) (fun c_294 => ?_) (fun c_294 => ?_)
                        · have c_294 : (Y (nxt n i)).toInt ≤ py.toInt := zc_le rfl rfl c_294
                          refine lv_iconst (v := 0) hx hb dX7_where_217 (by decide) ?_
                          refine lv_icmp_eq (tgt := 266) hx hb dX7_where_218 (by decide) (fun c_295 => ?_) (fun c_295 => ?_)
                          · exact absurd c_295 (by decide)
                          · have c_295 : ¬ 1 = 0 := zc_ne (by decide) (by decide) c_295
                            refine lv_iload hx hb dX7_where_221 (lv_at hl 0 rfl) ?_
                            refine lv_if_le (tgt := 230) hx hb dX7_where_223 (by decide) (fun c_296 => ?_) (fun c_296 => ?_)
                            · have c_296 : (eCr n X Y i px.toInt py.toInt) ≤ 0 := zc_le (iI_toInt (by omega)) (by decide) c_296
                              refine lv_iconst (v := 0) hx hb dX7_where_230 (by decide) ?_
                              refine lv_aload_n hx hb dX7_where_231 rfl (lv_at hl 4 rfl) ?_
                              refine va_get (D := (dC, dI)) (ci := 6) (v := .ref ry) (C := RX7) (T := TX7) (N := 4) hx hb hts inX7 hown hK hP 0 rfl rfl 1 (by decide) (hts _ mw_168) (fun _ h9 => h9) rfl dX7_where_232 ?_
                              refine lv_iload hx hb dX7_where_235 (lv_at hl 1 rfl) ?_
                              refine z_iald hx hb hK hP 2 0 rfl rfl (e := nxt n i) rfl (by omega) (by omega) dX7_where_237 ?_
                              refine lv_aload_n hx hb dX7_where_238 rfl (lv_at hl 4 rfl) ?_
                              refine va_get (D := (dC, dI)) (ci := 6) (v := .ref ry) (C := RX7) (T := TX7) (N := 4) hx hb hts inX7 hown hK hP 0 rfl rfl 1 (by decide) (hts _ mw_168) (fun _ h9 => h9) rfl dX7_where_239 ?_
                              refine lv_iload hx hb dX7_where_242 (lv_at hl 2 rfl) ?_
                              refine z_iald hx hb hK hP 2 0 rfl rfl (e := i) rfl (by omega) (by omega) dX7_where_244 ?_
                              refine lv_icmp_le (tgt := 252) hx hb dX7_where_245 (by decide) (fun c_297 => ?_) (fun c_297 => ?_)
                              · have c_297 : (Y (nxt n i)).toInt ≤ (Y i).toInt := zc_le rfl rfl c_297
                                refine lv_iconst (v := 0) hx hb dX7_where_252 (by decide) ?_
                                refine lv_icmp_ne (tgt := 266) hx hb dX7_where_253 (by decide) (fun c_298 => ?_) (fun c_298 => ?_)
                                · exact absurd (by decide) c_298
                                · have c_298 : 0 = 0 := zc_eq (by decide) (by decide) c_298
                                  refine lv_iload_n hx hb dX7_where_256 rfl (lv_at hl 3 rfl) ?_
                                  refine lv_if_ne (tgt := 264) hx hb dX7_where_257 (by decide) (fun c_299 => ?_) (fun c_299 => ?_)
                                  · have c_299 : par2 (eTg n X Y px.toInt py.toInt) i := zp_1 c_299
                                    refine lv_iconst (v := 0) hx hb dX7_where_264 (by decide) ?_
                                    refine lv_istore_n (lv' := [(3, .int 0), (6, .int (iI (eCr n X Y i px.toInt py.toInt))), (5, .int (nI (nxt n i))), (4, .int (nI i)), (0, .ref r), (1, .int px), (2, .int py)]) hx hb dX7_where_265 rfl hl (by decide) rfl (fun ls hl => ?_)
                                    refine lv_iinc (v := nI (i + 1)) (lv' := [(4, .int (nI (i + 1))), (3, .int 0), (6, .int (iI (eCr n X Y i px.toInt py.toInt))), (5, .int (nI (nxt n i))), (0, .ref r), (1, .int px), (2, .int py)]) hx hb dX7_where_266 hl (k := 3) rfl (nI_add i 1) (by decide) rfl (fun ls hl => ?_)
                                    refine lv_goto (tgt := 5) hx hb dX7_where_269 (by decide) ?_
                                    have hl9 := lv_sub hl [0, 1, 4, 5, 6] rfl
                                    have e9_3 : pI (par2 (eTg n X Y px.toInt py.toInt) (i + 1)) = (0 : Int32) := by first | exact zp_iff (par2_n (sk_tg (by omega)).1) | exact zp_iff (par2_n (by unfold eTg; omega)) | exact zp_t ((par2_y (by unfold eTg; omega)).mpr (by assumption)) | exact zp_f (fun q => (par2_y (by unfold eTg; omega)).mp q (by assumption))
                                    have hl9 : lv_has ls 7 [(4, .int (nI (i + 1))), (3, .int (pI (par2 (eTg n X Y px.toInt py.toInt) (i + 1)))), (0, .ref r), (1, .int px), (2, .int py)] := by rw [e9_3]; exact hl9
                                    exact ih_5 (i + 1) H locs ls (by omega) (by omega) (by intro k hk; rcases Nat.lt_or_ge k i with h | h; exact hno k h; have e9 : k = i := (by omega); subst e9; first | exact (sk_tg (by omega)).2 | (unfold eOn onS; unfold eCr at *; omega)) hP hD hS hl9
                                  · have c_299 : ¬ (par2 (eTg n X Y px.toInt py.toInt) i) := zp_0 c_299
                                    refine lv_iconst (v := 1) hx hb dX7_where_260 (by decide) ?_
                                    refine lv_goto (tgt := 265) hx hb dX7_where_261 (by decide) ?_
                                    refine lv_istore_n (lv' := [(3, .int 1), (6, .int (iI (eCr n X Y i px.toInt py.toInt))), (5, .int (nI (nxt n i))), (4, .int (nI i)), (0, .ref r), (1, .int px), (2, .int py)]) hx hb dX7_where_265 rfl hl (by decide) rfl (fun ls hl => ?_)
                                    refine lv_iinc (v := nI (i + 1)) (lv' := [(4, .int (nI (i + 1))), (3, .int 1), (6, .int (iI (eCr n X Y i px.toInt py.toInt))), (5, .int (nI (nxt n i))), (0, .ref r), (1, .int px), (2, .int py)]) hx hb dX7_where_266 hl (k := 3) rfl (nI_add i 1) (by decide) rfl (fun ls hl => ?_)
                                    refine lv_goto (tgt := 5) hx hb dX7_where_269 (by decide) ?_
                                    have hl9 := lv_sub hl [0, 1, 4, 5, 6] rfl
                                    have e9_3 : pI (par2 (eTg n X Y px.toInt py.toInt) (i + 1)) = (1 : Int32) := by first | exact zp_iff (par2_n (sk_tg (by omega)).1) | exact zp_iff (par2_n (by unfold eTg; omega)) | exact zp_t ((par2_y (by unfold eTg; omega)).mpr (by assumption)) | exact zp_f (fun q => (par2_y (by unfold eTg; omega)).mp q (by assumption))
                                    have hl9 : lv_has ls 7 [(4, .int (nI (i + 1))), (3, .int (pI (par2 (eTg n X Y px.toInt py.toInt) (i + 1)))), (0, .ref r), (1, .int px), (2, .int py)] := by rw [e9_3]; exact hl9
                                    exact ih_5 (i + 1) H locs ls (by omega) (by omega) (by intro k hk; rcases Nat.lt_or_ge k i with h | h; exact hno k h; have e9 : k = i := (by omega); subst e9; first | exact (sk_tg (by omega)).2 | (unfold eOn onS; unfold eCr at *; omega)) hP hD hS hl9
                              · have c_297 : (Y i).toInt < (Y (nxt n i)).toInt := zc_nle rfl rfl c_297
                                refine lv_iconst (v := 1) hx hb dX7_where_248 (by decide) ?_
                                refine lv_goto (tgt := 253) hx hb dX7_where_249 (by decide) ?_
                                refine lv_icmp_ne (tgt := 266) hx hb dX7_where_253 (by decide) (fun c_300 => ?_) (fun c_300 => ?_)
                                · have c_300 : ¬ 0 = 1 := zc_ne (by decide) (by decide) c_300
                                  refine lv_iinc (v := nI (i + 1)) (lv' := [(4, .int (nI (i + 1))), (6, .int (iI (eCr n X Y i px.toInt py.toInt))), (5, .int (nI (nxt n i))), (3, .int (pI (par2 (eTg n X Y px.toInt py.toInt) i))), (0, .ref r), (1, .int px), (2, .int py)]) hx hb dX7_where_266 hl (k := 2) rfl (nI_add i 1) (by decide) rfl (fun ls hl => ?_)
                                  refine lv_goto (tgt := 5) hx hb dX7_where_269 (by decide) ?_
                                  have hl9 := lv_sub hl [0, 3, 4, 5, 6] rfl
                                  have e9_3 : pI (par2 (eTg n X Y px.toInt py.toInt) (i + 1)) = (pI (par2 (eTg n X Y px.toInt py.toInt) i) : Int32) := by first | exact zp_iff (par2_n (sk_tg (by omega)).1) | exact zp_iff (par2_n (by unfold eTg; omega)) | exact zp_t ((par2_y (by unfold eTg; omega)).mpr (by assumption)) | exact zp_f (fun q => (par2_y (by unfold eTg; omega)).mp q (by assumption))
                                  have hl9 : lv_has ls 7 [(4, .int (nI (i + 1))), (3, .int (pI (par2 (eTg n X Y px.toInt py.toInt) (i + 1)))), (0, .ref r), (1, .int px), (2, .int py)] := by rw [e9_3]; exact hl9
                                  exact ih_5 (i + 1) H locs ls (by omega) (by omega) (by intro k hk; rcases Nat.lt_or_ge k i with h | h; exact hno k h; have e9 : k = i := (by omega); subst e9; first | exact (sk_tg (by omega)).2 | (unfold eOn onS; unfold eCr at *; omega)) hP hD hS hl9
                                · exact absurd c_300 (by decide)
                            · have c_296 : 0 < (eCr n X Y i px.toInt py.toInt) := zc_nle (iI_toInt (by omega)) (by decide) c_296
                              refine lv_iconst (v := 1) hx hb dX7_where_226 (by decide) ?_
                              refine lv_goto (tgt := 231) hx hb dX7_where_227 (by decide) ?_
                              refine lv_aload_n hx hb dX7_where_231 rfl (lv_at hl 4 rfl) ?_
                              refine va_get (D := (dC, dI)) (ci := 6) (v := .ref ry) (C := RX7) (T := TX7) (N := 4) hx hb hts inX7 hown hK hP 0 rfl rfl 1 (by decide) (hts _ mw_168) (fun _ h9 => h9) rfl dX7_where_232 ?_
                              refine lv_iload hx hb dX7_where_235 (lv_at hl 1 rfl) ?_
                              refine z_iald hx hb hK hP 2 0 rfl rfl (e := nxt n i) rfl (by omega) (by omega) dX7_where_237 ?_
                              refine lv_aload_n hx hb dX7_where_238 rfl (lv_at hl 4 rfl) ?_
                              refine va_get (D := (dC, dI)) (ci := 6) (v := .ref ry) (C := RX7) (T := TX7) (N := 4) hx hb hts inX7 hown hK hP 0 rfl rfl 1 (by decide) (hts _ mw_168) (fun _ h9 => h9) rfl dX7_where_239 ?_
                              refine lv_iload hx hb dX7_where_242 (lv_at hl 2 rfl) ?_
                              refine z_iald hx hb hK hP 2 0 rfl rfl (e := i) rfl (by omega) (by omega) dX7_where_244 ?_
                              refine lv_icmp_le (tgt := 252) hx hb dX7_where_245 (by decide) (fun c_301 => ?_) (fun c_301 => ?_)
                              · have c_301 : (Y (nxt n i)).toInt ≤ (Y i).toInt := zc_le rfl rfl c_301
                                refine lv_iconst (v := 0) hx hb dX7_where_252 (by decide) ?_
                                refine lv_icmp_ne (tgt := 266) hx hb dX7_where_253 (by decide) (fun c_302 => ?_) (fun c_302 => ?_)
                                · have c_302 : ¬ 1 = 0 := zc_ne (by decide) (by decide) c_302
                                  refine lv_iinc (v := nI (i + 1)) (lv' := [(4, .int (nI (i + 1))), (6, .int (iI (eCr n X Y i px.toInt py.toInt))), (5, .int (nI (nxt n i))), (3, .int (pI (par2 (eTg n X Y px.toInt py.toInt) i))), (0, .ref r), (1, .int px), (2, .int py)]) hx hb dX7_where_266 hl (k := 2) rfl (nI_add i 1) (by decide) rfl (fun ls hl => ?_)
                                  refine lv_goto (tgt := 5) hx hb dX7_where_269 (by decide) ?_
                                  have hl9 := lv_sub hl [0, 3, 4, 5, 6] rfl
                                  have e9_3 : pI (par2 (eTg n X Y px.toInt py.toInt) (i + 1)) = (pI (par2 (eTg n X Y px.toInt py.toInt) i) : Int32) := by first | exact zp_iff (par2_n (sk_tg (by omega)).1) | exact zp_iff (par2_n (by unfold eTg; omega)) | exact zp_t ((par2_y (by unfold eTg; omega)).mpr (by assumption)) | exact zp_f (fun q => (par2_y (by unfold eTg; omega)).mp q (by assumption))
                                  have hl9 : lv_has ls 7 [(4, .int (nI (i + 1))), (3, .int (pI (par2 (eTg n X Y px.toInt py.toInt) (i + 1)))), (0, .ref r), (1, .int px), (2, .int py)] := by rw [e9_3]; exact hl9
                                  exact ih_5 (i + 1) H locs ls (by omega) (by omega) (by intro k hk; rcases Nat.lt_or_ge k i with h | h; exact hno k h; have e9 : k = i := (by omega); subst e9; first | exact (sk_tg (by omega)).2 | (unfold eOn onS; unfold eCr at *; omega)) hP hD hS hl9
                                · exact absurd c_302 (by decide)
                              · have c_301 : (Y i).toInt < (Y (nxt n i)).toInt := zc_nle rfl rfl c_301
                                refine lv_iconst (v := 1) hx hb dX7_where_248 (by decide) ?_
                                refine lv_goto (tgt := 253) hx hb dX7_where_249 (by decide) ?_
                                refine lv_icmp_ne (tgt := 266) hx hb dX7_where_253 (by decide) (fun c_303 => ?_) (fun c_303 => ?_)
                                · exact absurd (by decide) c_303
                                · have c_303 : 1 = 1 := zc_eq (by decide) (by decide) c_303
                                  refine lv_iload_n hx hb dX7_where_256 rfl (lv_at hl 3 rfl) ?_
                                  refine lv_if_ne (tgt := 264) hx hb dX7_where_257 (by decide) (fun c_304 => ?_) (fun c_304 => ?_)
                                  · have c_304 : par2 (eTg n X Y px.toInt py.toInt) i := zp_1 c_304
                                    refine lv_iconst (v := 0) hx hb dX7_where_264 (by decide) ?_
                                    refine lv_istore_n (lv' := [(3, .int 0), (6, .int (iI (eCr n X Y i px.toInt py.toInt))), (5, .int (nI (nxt n i))), (4, .int (nI i)), (0, .ref r), (1, .int px), (2, .int py)]) hx hb dX7_where_265 rfl hl (by decide) rfl (fun ls hl => ?_)
                                    refine lv_iinc (v := nI (i + 1)) (lv' := [(4, .int (nI (i + 1))), (3, .int 0), (6, .int (iI (eCr n X Y i px.toInt py.toInt))), (5, .int (nI (nxt n i))), (0, .ref r), (1, .int px), (2, .int py)]) hx hb dX7_where_266 hl (k := 3) rfl (nI_add i 1) (by decide) rfl (fun ls hl => ?_)
                                    refine lv_goto (tgt := 5) hx hb dX7_where_269 (by decide) ?_
                                    have hl9 := lv_sub hl [0, 1, 4, 5, 6] rfl
                                    have e9_3 : pI (par2 (eTg n X Y px.toInt py.toInt) (i + 1)) = (0 : Int32) := by first | exact zp_iff (par2_n (sk_tg (by omega)).1) | exact zp_iff (par2_n (by unfold eTg; omega)) | exact zp_t ((par2_y (by unfold eTg; omega)).mpr (by assumption)) | exact zp_f (fun q => (par2_y (by unfold eTg; omega)).mp q (by assumption))
                                    have hl9 : lv_has ls 7 [(4, .int (nI (i + 1))), (3, .int (pI (par2 (eTg n X Y px.toInt py.toInt) (i + 1)))), (0, .ref r), (1, .int px), (2, .int py)] := by rw [e9_3]; exact hl9
                                    exact ih_5 (i + 1) H locs ls (by omega) (by omega) (by intro k hk; rcases Nat.lt_or_ge k i with h | h; exact hno k h; have e9 : k = i := (by omega); subst e9; first | exact (sk_tg (by omega)).2 | (unfold eOn onS; unfold eCr at *; omega)) hP hD hS hl9
                                  · have c_304 : ¬ (par2 (eTg n X Y px.toInt py.toInt) i) := zp_0 c_304
                                    refine lv_iconst (v := 1) hx hb dX7_where_260 (by decide) ?_
                                    refine lv_goto (tgt := 265) hx hb dX7_where_261 (by decide) ?_
                                    refine lv_istore_n (lv' := [(3, .int 1), (6, .int (iI (eCr n X Y i px.toInt py.toInt))), (5, .int (nI (nxt n i))), (4, .int (nI i)), (0, .ref r), (1, .int px), (2, .int py)]) hx hb dX7_where_265 rfl hl (by decide) rfl (fun ls hl => ?_)
                                    refine lv_iinc (v := nI (i + 1)) (lv' := [(4, .int (nI (i + 1))), (3, .int 1), (6, .int (iI (eCr n X Y i px.toInt py.toInt))), (5, .int (nI (nxt n i))), (0, .ref r), (1, .int px), (2, .int py)]) hx hb dX7_where_266 hl (k := 3) rfl (nI_add i 1) (by decide) rfl (fun ls hl => ?_)
                                    refine lv_goto (tgt := 5) hx hb dX7_where_269 (by decide) ?_
                                    have hl9 := lv_sub hl [0, 1, 4, 5, 6] rfl
                                    have e9_3 : pI (par2 (eTg n X Y px.toInt py.toInt) (i + 1)) = (1 : Int32) := by first | exact zp_iff (par2_n (sk_tg (by omega)).1) | exact zp_iff (par2_n (by unfold eTg; omega)) | exact zp_t ((par2_y (by unfold eTg; omega)).mpr (by assumption)) | exact zp_f (fun q => (par2_y (by unfold eTg; omega)).mp q (by assumption))
                                    have hl9 : lv_has ls 7 [(4, .int (nI (i + 1))), (3, .int (pI (par2 (eTg n X Y px.toInt py.toInt) (i + 1)))), (0, .ref r), (1, .int px), (2, .int py)] := by rw [e9_3]; exact hl9
                                    exact ih_5 (i + 1) H locs ls (by omega) (by omega) (by intro k hk; rcases Nat.lt_or_ge k i with h | h; exact hno k h; have e9 : k = i := (by omega); subst e9; first | exact (sk_tg (by omega)).2 | (unfold eOn onS; unfold eCr at *; omega)) hP hD hS hl9
                        · have c_294 : py.toInt < (Y (nxt n i)).toInt := zc_nle rfl rfl c_294
                          refine lv_iconst (v := 1) hx hb dX7_where_213 (by decide) ?_
                          refine lv_goto (tgt := 218) hx hb dX7_where_214 (by decide) ?_
                          refine lv_icmp_eq (tgt := 266) hx hb dX7_where_218 (by decide) (fun c_305 => ?_) (fun c_305 => ?_)
                          · have c_305 : 1 = 1 := zc_eq (by decide) (by decide) c_305
                            refine lv_iinc (v := nI (i + 1)) (lv' := [(4, .int (nI (i + 1))), (6, .int (iI (eCr n X Y i px.toInt py.toInt))), (5, .int (nI (nxt n i))), (3, .int (pI (par2 (eTg n X Y px.toInt py.toInt) i))), (0, .ref r), (1, .int px), (2, .int py)]) hx hb dX7_where_266 hl (k := 2) rfl (nI_add i 1) (by decide) rfl (fun ls hl => ?_)
                            refine lv_goto (tgt := 5) hx hb dX7_where_269 (by decide) ?_
                            have hl9 := lv_sub hl [0, 3, 4, 5, 6] rfl
                            have e9_3 : pI (par2 (eTg n X Y px.toInt py.toInt) (i + 1)) = (pI (par2 (eTg n X Y px.toInt py.toInt) i) : Int32) := by first | exact zp_iff (par2_n (sk_tg (by omega)).1) | exact zp_iff (par2_n (by unfold eTg; omega)) | exact zp_t ((par2_y (by unfold eTg; omega)).mpr (by assumption)) | exact zp_f (fun q => (par2_y (by unfold eTg; omega)).mp q (by assumption))
                            have hl9 : lv_has ls 7 [(4, .int (nI (i + 1))), (3, .int (pI (par2 (eTg n X Y px.toInt py.toInt) (i + 1)))), (0, .ref r), (1, .int px), (2, .int py)] := by rw [e9_3]; exact hl9
                            exact ih_5 (i + 1) H locs ls (by omega) (by omega) (by intro k hk; rcases Nat.lt_or_ge k i with h | h; exact hno k h; have e9 : k = i := (by omega); subst e9; first | exact (sk_tg (by omega)).2 | (unfold eOn onS; unfold eCr at *; omega)) hP hD hS hl9
                          · exact absurd (by decide) c_305
                    · have c_280 : (eCr n X Y i px.toInt py.toInt) = 0 := zc_eq (iI_toInt (by omega)) (by decide) c_280
                      refine lv_aload_n hx hb dX7_where_162 rfl (lv_at hl 4 rfl) ?_
                      refine va_get (D := (dC, dI)) (ci := 6) (v := .ref rx) (C := RX7) (T := TX7) (N := 4) hx hb hts inX7 hown hK hP 0 rfl rfl 0 (by decide) (hts _ mw_161) (fun _ h9 => h9) rfl dX7_where_163 ?_
                      refine lv_iload hx hb dX7_where_166 (lv_at hl 2 rfl) ?_
                      refine z_iald hx hb hK hP 1 0 rfl rfl (e := i) rfl (by omega) (by omega) dX7_where_168 ?_
                      refine lv_iload_n hx hb dX7_where_169 rfl (lv_at hl 5 rfl) ?_
                      refine lv_icmp_le (tgt := 184) hx hb dX7_where_170 (by decide) (fun c_306 => ?_) (fun c_306 => ?_)
                      · have c_306 : (X i).toInt ≤ px.toInt := zc_le rfl rfl c_306
                        refine lv_iconst (v := 2) hx hb dX7_where_184 (by decide) ?_
                        have hP9 := hP.sub (ws' := [(r, .inr (6, [.ref rx, .ref ry, .int (nI n), .int rg])), (rx, .inl (cI, cap, .inl X)), (ry, .inl (cI, cap, .inl Y))]) [0, 1, 2] rfl
                        have hD9 := hD.sub (ws' := [(r, .inr (6, [.ref rx, .ref ry, .int (nI n), .int rg])), (rx, .inl (cI, cap, .inl X)), (ry, .inl (cI, cap, .inl Y))]) [0, 1, 2] (by decide) rfl
                        rw [hQ9]
                        exact W.iret (v := 2) hx hb hr (fun t ht hW => ⟨⟨congrArg (fun z => Outcome.returned (some (Value.int z))) (show (2 : Int32) = whr n X Y px.toInt py.toInt from (whr_2 ⟨i, by omega, by unfold eOn onS; unfold eCr at *; omega⟩).symm), by rw [ht]; exact hP9, hD9⟩, hS.F ht⟩) hS.2.2 dX7_where_185
                      · have c_306 : px.toInt < (X i).toInt := zc_nle rfl rfl c_306
                        refine lv_aload_n hx hb dX7_where_173 rfl (lv_at hl 4 rfl) ?_
                        refine va_get (D := (dC, dI)) (ci := 6) (v := .ref rx) (C := RX7) (T := TX7) (N := 4) hx hb hts inX7 hown hK hP 0 rfl rfl 0 (by decide) (hts _ mw_161) (fun _ h9 => h9) rfl dX7_where_174 ?_
                        refine lv_iload hx hb dX7_where_177 (lv_at hl 1 rfl) ?_
                        refine z_iald hx hb hK hP 1 0 rfl rfl (e := nxt n i) rfl (by omega) (by omega) dX7_where_179 ?_
                        refine lv_iload_n hx hb dX7_where_180 rfl (lv_at hl 5 rfl) ?_
                        refine lv_icmp_gt (tgt := 186) hx hb dX7_where_181 (by decide) (fun c_307 => ?_) (fun c_307 => ?_)
                        · have c_307 : px.toInt < (X (nxt n i)).toInt := zc_lt rfl rfl c_307
                          refine lv_aload_n hx hb dX7_where_186 rfl (lv_at hl 4 rfl) ?_
                          refine va_get (D := (dC, dI)) (ci := 6) (v := .ref ry) (C := RX7) (T := TX7) (N := 4) hx hb hts inX7 hown hK hP 0 rfl rfl 1 (by decide) (hts _ mw_168) (fun _ h9 => h9) rfl dX7_where_187 ?_
                          refine lv_iload hx hb dX7_where_190 (lv_at hl 2 rfl) ?_
                          refine z_iald hx hb hK hP 2 0 rfl rfl (e := i) rfl (by omega) (by omega) dX7_where_192 ?_
                          refine lv_iload_n hx hb dX7_where_193 rfl (lv_at hl 6 rfl) ?_
                          refine lv_icmp_le (tgt := 201) hx hb dX7_where_194 (by decide) (fun c_308 => ?_) (fun c_308 => ?_)
                          · have c_308 : (Y i).toInt ≤ py.toInt := zc_le rfl rfl c_308
                            refine lv_iconst (v := 0) hx hb dX7_where_201 (by decide) ?_
                            refine lv_aload_n hx hb dX7_where_202 rfl (lv_at hl 4 rfl) ?_
                            refine va_get (D := (dC, dI)) (ci := 6) (v := .ref ry) (C := RX7) (T := TX7) (N := 4) hx hb hts inX7 hown hK hP 0 rfl rfl 1 (by decide) (hts _ mw_168) (fun _ h9 => h9) rfl dX7_where_203 ?_
                            refine lv_iload hx hb dX7_where_206 (lv_at hl 1 rfl) ?_
                            refine z_iald hx hb hK hP 2 0 rfl rfl (e := nxt n i) rfl (by omega) (by omega) dX7_where_208 ?_
                            refine lv_iload_n hx hb dX7_where_209 rfl (lv_at hl 6 rfl) ?_
                            refine lv_icmp_le (tgt := 217) hx hb dX7_where_210 (by decide) (fun c_309 => ?_) (fun c_309 => ?_)
                            · have c_309 : (Y (nxt n i)).toInt ≤ py.toInt := zc_le rfl rfl c_309
                              refine lv_iconst (v := 0) hx hb dX7_where_217 (by decide) ?_
                              refine lv_icmp_eq (tgt := 266) hx hb dX7_where_218 (by decide) (fun c_310 => ?_) (fun c_310 => ?_)
                              · have c_310 : 0 = 0 := zc_eq (by decide) (by decide) c_310
                                refine lv_iinc (v := nI (i + 1)) (lv' := [(4, .int (nI (i + 1))), (6, .int (iI (eCr n X Y i px.toInt py.toInt))), (5, .int (nI (nxt n i))), (3, .int (pI (par2 (eTg n X Y px.toInt py.toInt) i))), (0, .ref r), (1, .int px), (2, .int py)]) hx hb dX7_where_266 hl (k := 2) rfl (nI_add i 1) (by decide) rfl (fun ls hl => ?_)
                                refine lv_goto (tgt := 5) hx hb dX7_where_269 (by decide) ?_
                                have hl9 := lv_sub hl [0, 3, 4, 5, 6] rfl
                                have e9_3 : pI (par2 (eTg n X Y px.toInt py.toInt) (i + 1)) = (pI (par2 (eTg n X Y px.toInt py.toInt) i) : Int32) := by first | exact zp_iff (par2_n (sk_tg (by omega)).1) | exact zp_iff (par2_n (by unfold eTg; omega)) | exact zp_t ((par2_y (by unfold eTg; omega)).mpr (by assumption)) | exact zp_f (fun q => (par2_y (by unfold eTg; omega)).mp q (by assumption))
                                have hl9 : lv_has ls 7 [(4, .int (nI (i + 1))), (3, .int (pI (par2 (eTg n X Y px.toInt py.toInt) (i + 1)))), (0, .ref r), (1, .int px), (2, .int py)] := by rw [e9_3]; exact hl9
                                exact ih_5 (i + 1) H locs ls (by omega) (by omega) (by intro k hk; rcases Nat.lt_or_ge k i with h | h; exact hno k h; have e9 : k = i := (by omega); subst e9; first | exact (sk_tg (by omega)).2 | (unfold eOn onS; unfold eCr at *; omega)) hP hD hS hl9
                              · exact absurd (by decide) c_310
                            · have c_309 : py.toInt < (Y (nxt n i)).toInt := zc_nle rfl rfl c_309
                              refine lv_iconst (v := 1) hx hb dX7_where_213 (by decide) ?_
                              refine lv_goto (tgt := 218) hx hb dX7_where_214 (by decide) ?_
                              refine lv_icmp_eq (tgt := 266) hx hb dX7_where_218 (by decide) (fun c_311 => ?_) (fun c_311 => ?_)
                              · exact absurd c_311 (by decide)
                              · have c_311 : ¬ 0 = 1 := zc_ne (by decide) (by decide) c_311
                                refine lv_iload hx hb dX7_where_221 (lv_at hl 0 rfl) ?_
                                refine lv_if_le (tgt := 230) hx hb dX7_where_223 (by decide) (fun c_312 => ?_) (fun c_312 => ?_)
                                · have c_312 : (eCr n X Y i px.toInt py.toInt) ≤ 0 := zc_le (iI_toInt (by omega)) (by decide) c_312
                                  refine lv_iconst (v := 0) hx hb dX7_where_230 (by decide) ?_
                                  refine lv_aload_n hx hb dX7_where_231 rfl (lv_at hl 4 rfl) ?_
                                  refine va_get (D := (dC, dI)) (ci := 6) (v := .ref ry) (C := RX7) (T := TX7) (N := 4) hx hb hts inX7 hown hK hP 0 rfl rfl 1 (by decide) (hts _ mw_168) (fun _ h9 => h9) rfl dX7_where_232 ?_
                                  refine lv_iload hx hb dX7_where_235 (lv_at hl 1 rfl) ?_
                                  refine z_iald hx hb hK hP 2 0 rfl rfl (e := nxt n i) rfl (by omega) (by omega) dX7_where_237 ?_
                                  refine lv_aload_n hx hb dX7_where_238 rfl (lv_at hl 4 rfl) ?_
                                  refine va_get (D := (dC, dI)) (ci := 6) (v := .ref ry) (C := RX7) (T := TX7) (N := 4) hx hb hts inX7 hown hK hP 0 rfl rfl 1 (by decide) (hts _ mw_168) (fun _ h9 => h9) rfl dX7_where_239 ?_
                                  refine lv_iload hx hb dX7_where_242 (lv_at hl 2 rfl) ?_
                                  refine z_iald hx hb hK hP 2 0 rfl rfl (e := i) rfl (by omega) (by omega) dX7_where_244 ?_
                                  refine lv_icmp_le (tgt := 252) hx hb dX7_where_245 (by decide) (fun c_313 => ?_) (fun c_313 => ?_)
                                  · have c_313 : (Y (nxt n i)).toInt ≤ (Y i).toInt := zc_le rfl rfl c_313
                                    refine lv_iconst (v := 0) hx hb dX7_where_252 (by decide) ?_
                                    refine lv_icmp_ne (tgt := 266) hx hb dX7_where_253 (by decide) (fun c_314 => ?_) (fun c_314 => ?_)
                                    · exact absurd (by decide) c_314
                                    · have c_314 : 0 = 0 := zc_eq (by decide) (by decide) c_314
                                      refine lv_iload_n hx hb dX7_where_256 rfl (lv_at hl 3 rfl) ?_
                                      refine lv_if_ne (tgt := 264) hx hb dX7_where_257 (by decide) (fun c_315 => ?_) (fun c_315 => ?_)
                                      · have c_315 : par2 (eTg n X Y px.toInt py.toInt) i := zp_1 c_315
                                        refine lv_iconst (v := 0) hx hb dX7_where_264 (by decide) ?_
                                        refine lv_istore_n (lv' := [(3, .int 0), (6, .int (iI (eCr n X Y i px.toInt py.toInt))), (5, .int (nI (nxt n i))), (4, .int (nI i)), (0, .ref r), (1, .int px), (2, .int py)]) hx hb dX7_where_265 rfl hl (by decide) rfl (fun ls hl => ?_)
                                        refine lv_iinc (v := nI (i + 1)) (lv' := [(4, .int (nI (i + 1))), (3, .int 0), (6, .int (iI (eCr n X Y i px.toInt py.toInt))), (5, .int (nI (nxt n i))), (0, .ref r), (1, .int px), (2, .int py)]) hx hb dX7_where_266 hl (k := 3) rfl (nI_add i 1) (by decide) rfl (fun ls hl => ?_)
                                        refine lv_goto (tgt := 5) hx hb dX7_where_269 (by decide) ?_
                                        have hl9 := lv_sub hl [0, 1, 4, 5, 6] rfl
                                        have e9_3 : pI (par2 (eTg n X Y px.toInt py.toInt) (i + 1)) = (0 : Int32) := by first | exact zp_iff (par2_n (sk_tg (by omega)).1) | exact zp_iff (par2_n (by unfold eTg; omega)) | exact zp_t ((par2_y (by unfold eTg; omega)).mpr (by assumption)) | exact zp_f (fun q => (par2_y (by unfold eTg; omega)).mp q (by assumption))
                                        have hl9 : lv_has ls 7 [(4, .int (nI (i + 1))), (3, .int (pI (par2 (eTg n X Y px.toInt py.toInt) (i + 1)))), (0, .ref r), (1, .int px), (2, .int py)] := by rw [e9_3]; exact hl9
                                        exact ih_5 (i + 1) H locs ls (by omega) (by omega) (by intro k hk; rcases Nat.lt_or_ge k i with h | h; exact hno k h; have e9 : k = i := (by omega); subst e9; first | exact (sk_tg (by omega)).2 | (unfold eOn onS; unfold eCr at *; omega)) hP hD hS hl9
                                      · have c_315 : ¬ (par2 (eTg n X Y px.toInt py.toInt) i) := zp_0 c_315
                                        refine lv_iconst (v := 1) hx hb dX7_where_260 (by decide) ?_
                                        refine lv_goto (tgt := 265) hx hb dX7_where_261 (by decide) ?_
                                        refine lv_istore_n (lv' := [(3, .int 1), (6, .int (iI (eCr n X Y i px.toInt py.toInt))), (5, .int (nI (nxt n i))), (4, .int (nI i)), (0, .ref r), (1, .int px), (2, .int py)]) hx hb dX7_where_265 rfl hl (by decide) rfl (fun ls hl => ?_)
                                        refine lv_iinc (v := nI (i + 1)) (lv' := [(4, .int (nI (i + 1))), (3, .int 1), (6, .int (iI (eCr n X Y i px.toInt py.toInt))), (5, .int (nI (nxt n i))), (0, .ref r), (1, .int px), (2, .int py)]) hx hb dX7_where_266 hl (k := 3) rfl (nI_add i 1) (by decide) rfl (fun ls hl => ?_)
                                        refine lv_goto (tgt := 5) hx hb dX7_where_269 (by decide) ?_
                                        have hl9 := lv_sub hl [0, 1, 4, 5, 6] rfl
                                        have e9_3 : pI (par2 (eTg n X Y px.toInt py.toInt) (i + 1)) = (1 : Int32) := by first | exact zp_iff (par2_n (sk_tg (by omega)).1) | exact zp_iff (par2_n (by unfold eTg; omega)) | exact zp_t ((par2_y (by unfold eTg; omega)).mpr (by assumption)) | exact zp_f (fun q => (par2_y (by unfold eTg; omega)).mp q (by assumption))
                                        have hl9 : lv_has ls 7 [(4, .int (nI (i + 1))), (3, .int (pI (par2 (eTg n X Y px.toInt py.toInt) (i + 1)))), (0, .ref r), (1, .int px), (2, .int py)] := by rw [e9_3]; exact hl9
                                        exact ih_5 (i + 1) H locs ls (by omega) (by omega) (by intro k hk; rcases Nat.lt_or_ge k i with h | h; exact hno k h; have e9 : k = i := (by omega); subst e9; first | exact (sk_tg (by omega)).2 | (unfold eOn onS; unfold eCr at *; omega)) hP hD hS hl9
                                  · have c_313 : (Y i).toInt < (Y (nxt n i)).toInt := zc_nle rfl rfl c_313
                                    refine lv_iconst (v := 1) hx hb dX7_where_248 (by decide) ?_
                                    refine lv_goto (tgt := 253) hx hb dX7_where_249 (by decide) ?_
                                    refine lv_icmp_ne (tgt := 266) hx hb dX7_where_253 (by decide) (fun c_316 => ?_) (fun c_316 => ?_)
                                    · have c_316 : ¬ 0 = 1 := zc_ne (by decide) (by decide) c_316
                                      refine lv_iinc (v := nI (i + 1)) (lv' := [(4, .int (nI (i + 1))), (6, .int (iI (eCr n X Y i px.toInt py.toInt))), (5, .int (nI (nxt n i))), (3, .int (pI (par2 (eTg n X Y px.toInt py.toInt) i))), (0, .ref r), (1, .int px), (2, .int py)]) hx hb dX7_where_266 hl (k := 2) rfl (nI_add i 1) (by decide) rfl (fun ls hl => ?_)
                                      refine lv_goto (tgt := 5) hx hb dX7_where_269 (by decide) ?_
                                      have hl9 := lv_sub hl [0, 3, 4, 5, 6] rfl
                                      have e9_3 : pI (par2 (eTg n X Y px.toInt py.toInt) (i + 1)) = (pI (par2 (eTg n X Y px.toInt py.toInt) i) : Int32) := by first | exact zp_iff (par2_n (sk_tg (by omega)).1) | exact zp_iff (par2_n (by unfold eTg; omega)) | exact zp_t ((par2_y (by unfold eTg; omega)).mpr (by assumption)) | exact zp_f (fun q => (par2_y (by unfold eTg; omega)).mp q (by assumption))
                                      have hl9 : lv_has ls 7 [(4, .int (nI (i + 1))), (3, .int (pI (par2 (eTg n X Y px.toInt py.toInt) (i + 1)))), (0, .ref r), (1, .int px), (2, .int py)] := by rw [e9_3]; exact hl9
                                      exact ih_5 (i + 1) H locs ls (by omega) (by omega) (by intro k hk; rcases Nat.lt_or_ge k i with h | h; exact hno k h; have e9 : k = i := (by omega); subst e9; first | exact (sk_tg (by omega)).2 | (unfold eOn onS; unfold eCr at *; omega)) hP hD hS hl9
                                    · exact absurd c_316 (by decide)
                                · have c_312 : 0 < (eCr n X Y i px.toInt py.toInt) := zc_nle (iI_toInt (by omega)) (by decide) c_312
                                  refine lv_iconst (v := 1) hx hb dX7_where_226 (by decide) ?_
                                  refine lv_goto (tgt := 231) hx hb dX7_where_227 (by decide) ?_
                                  refine lv_aload_n hx hb dX7_where_231 rfl (lv_at hl 4 rfl) ?_
                                  refine va_get (D := (dC, dI)) (ci := 6) (v := .ref ry) (C := RX7) (T := TX7) (N := 4) hx hb hts inX7 hown hK hP 0 rfl rfl 1 (by decide) (hts _ mw_168) (fun _ h9 => h9) rfl dX7_where_232 ?_
                                  refine lv_iload hx hb dX7_where_235 (lv_at hl 1 rfl) ?_
                                  refine z_iald hx hb hK hP 2 0 rfl rfl (e := nxt n i) rfl (by omega) (by omega) dX7_where_237 ?_
                                  refine lv_aload_n hx hb dX7_where_238 rfl (lv_at hl 4 rfl) ?_
                                  refine va_get (D := (dC, dI)) (ci := 6) (v := .ref ry) (C := RX7) (T := TX7) (N := 4) hx hb hts inX7 hown hK hP 0 rfl rfl 1 (by decide) (hts _ mw_168) (fun _ h9 => h9) rfl dX7_where_239 ?_
                                  refine lv_iload hx hb dX7_where_242 (lv_at hl 2 rfl) ?_
                                  refine z_iald hx hb hK hP 2 0 rfl rfl (e := i) rfl (by omega) (by omega) dX7_where_244 ?_
                                  refine lv_icmp_le (tgt := 252) hx hb dX7_where_245 (by decide) (fun c_317 => ?_) (fun c_317 => ?_)
                                  · have c_317 : (Y (nxt n i)).toInt ≤ (Y i).toInt := zc_le rfl rfl c_317
                                    refine lv_iconst (v := 0) hx hb dX7_where_252 (by decide) ?_
                                    refine lv_icmp_ne (tgt := 266) hx hb dX7_where_253 (by decide) (fun c_318 => ?_) (fun c_318 => ?_)
                                    · have c_318 : ¬ 1 = 0 := zc_ne (by decide) (by decide) c_318
                                      refine lv_iinc (v := nI (i + 1)) (lv' := [(4, .int (nI (i + 1))), (6, .int (iI (eCr n X Y i px.toInt py.toInt))), (5, .int (nI (nxt n i))), (3, .int (pI (par2 (eTg n X Y px.toInt py.toInt) i))), (0, .ref r), (1, .int px), (2, .int py)]) hx hb dX7_where_266 hl (k := 2) rfl (nI_add i 1) (by decide) rfl (fun ls hl => ?_)
                                      refine lv_goto (tgt := 5) hx hb dX7_where_269 (by decide) ?_
                                      have hl9 := lv_sub hl [0, 3, 4, 5, 6] rfl
                                      have e9_3 : pI (par2 (eTg n X Y px.toInt py.toInt) (i + 1)) = (pI (par2 (eTg n X Y px.toInt py.toInt) i) : Int32) := by first | exact zp_iff (par2_n (sk_tg (by omega)).1) | exact zp_iff (par2_n (by unfold eTg; omega)) | exact zp_t ((par2_y (by unfold eTg; omega)).mpr (by assumption)) | exact zp_f (fun q => (par2_y (by unfold eTg; omega)).mp q (by assumption))
                                      have hl9 : lv_has ls 7 [(4, .int (nI (i + 1))), (3, .int (pI (par2 (eTg n X Y px.toInt py.toInt) (i + 1)))), (0, .ref r), (1, .int px), (2, .int py)] := by rw [e9_3]; exact hl9
                                      exact ih_5 (i + 1) H locs ls (by omega) (by omega) (by intro k hk; rcases Nat.lt_or_ge k i with h | h; exact hno k h; have e9 : k = i := (by omega); subst e9; first | exact (sk_tg (by omega)).2 | (unfold eOn onS; unfold eCr at *; omega)) hP hD hS hl9
                                    · exact absurd c_318 (by decide)
                                  · have c_317 : (Y i).toInt < (Y (nxt n i)).toInt := zc_nle rfl rfl c_317
                                    refine lv_iconst (v := 1) hx hb dX7_where_248 (by decide) ?_
                                    refine lv_goto (tgt := 253) hx hb dX7_where_249 (by decide) ?_
                                    refine lv_icmp_ne (tgt := 266) hx hb dX7_where_253 (by decide) (fun c_319 => ?_) (fun c_319 => ?_)
                                    · exact absurd (by decide) c_319
                                    · have c_319 : 1 = 1 := zc_eq (by decide) (by decide) c_319
                                      refine lv_iload_n hx hb dX7_where_256 rfl (lv_at hl 3 rfl) ?_
                                      refine lv_if_ne (tgt := 264) hx hb dX7_where_257 (by decide) (fun c_320 => ?_) (fun c_320 => ?_)
                                      · have c_320 : par2 (eTg n X Y px.toInt py.toInt) i := zp_1 c_320
                                        refine lv_iconst (v := 0) hx hb dX7_where_264 (by decide) ?_
                                        refine lv_istore_n (lv' := [(3, .int 0), (6, .int (iI (eCr n X Y i px.toInt py.toInt))), (5, .int (nI (nxt n i))), (4, .int (nI i)), (0, .ref r), (1, .int px), (2, .int py)]) hx hb dX7_where_265 rfl hl (by decide) rfl (fun ls hl => ?_)
                                        refine lv_iinc (v := nI (i + 1)) (lv' := [(4, .int (nI (i + 1))), (3, .int 0), (6, .int (iI (eCr n X Y i px.toInt py.toInt))), (5, .int (nI (nxt n i))), (0, .ref r), (1, .int px), (2, .int py)]) hx hb dX7_where_266 hl (k := 3) rfl (nI_add i 1) (by decide) rfl (fun ls hl => ?_)
                                        refine lv_goto (tgt := 5) hx hb dX7_where_269 (by decide) ?_
                                        have hl9 := lv_sub hl [0, 1, 4, 5, 6] rfl
                                        have e9_3 : pI (par2 (eTg n X Y px.toInt py.toInt) (i + 1)) = (0 : Int32) := by first | exact zp_iff (par2_n (sk_tg (by omega)).1) | exact zp_iff (par2_n (by unfold eTg; omega)) | exact zp_t ((par2_y (by unfold eTg; omega)).mpr (by assumption)) | exact zp_f (fun q => (par2_y (by unfold eTg; omega)).mp q (by assumption))
                                        have hl9 : lv_has ls 7 [(4, .int (nI (i + 1))), (3, .int (pI (par2 (eTg n X Y px.toInt py.toInt) (i + 1)))), (0, .ref r), (1, .int px), (2, .int py)] := by rw [e9_3]; exact hl9
                                        exact ih_5 (i + 1) H locs ls (by omega) (by omega) (by intro k hk; rcases Nat.lt_or_ge k i with h | h; exact hno k h; have e9 : k = i := (by omega); subst e9; first | exact (sk_tg (by omega)).2 | (unfold eOn onS; unfold eCr at *; omega)) hP hD hS hl9
                                      · have c_320 : ¬ (par2 (eTg n X Y px.toInt py.toInt) i) := zp_0 c_320
                                        refine lv_iconst (v := 1) hx hb dX7_where_260 (by decide) ?_
                                        refine lv_goto (tgt := 265) hx hb dX7_where_261 (by decide) ?_
                                        refine lv_istore_n (lv' := [(3, .int 1), (6, .int (iI (eCr n X Y i px.toInt py.toInt))), (5, .int (nI (nxt n i))), (4, .int (nI i)), (0, .ref r), (1, .int px), (2, .int py)]) hx hb dX7_where_265 rfl hl (by decide) rfl (fun ls hl => ?_)
                                        refine lv_iinc (v := nI (i + 1)) (lv' := [(4, .int (nI (i + 1))), (3, .int 1), (6, .int (iI (eCr n X Y i px.toInt py.toInt))), (5, .int (nI (nxt n i))), (0, .ref r), (1, .int px), (2, .int py)]) hx hb dX7_where_266 hl (k := 3) rfl (nI_add i 1) (by decide) rfl (fun ls hl => ?_)
                                        refine lv_goto (tgt := 5) hx hb dX7_where_269 (by decide) ?_
                                        have hl9 := lv_sub hl [0, 1, 4, 5, 6] rfl
                                        have e9_3 : pI (par2 (eTg n X Y px.toInt py.toInt) (i + 1)) = (1 : Int32) := by first | exact zp_iff (par2_n (sk_tg (by omega)).1) | exact zp_iff (par2_n (by unfold eTg; omega)) | exact zp_t ((par2_y (by unfold eTg; omega)).mpr (by assumption)) | exact zp_f (fun q => (par2_y (by unfold eTg; omega)).mp q (by assumption))
                                        have hl9 : lv_has ls 7 [(4, .int (nI (i + 1))), (3, .int (pI (par2 (eTg n X Y px.toInt py.toInt) (i + 1)))), (0, .ref r), (1, .int px), (2, .int py)] := by rw [e9_3]; exact hl9
                                        exact ih_5 (i + 1) H locs ls (by omega) (by omega) (by intro k hk; rcases Nat.lt_or_ge k i with h | h; exact hno k h; have e9 : k = i := (by omega); subst e9; first | exact (sk_tg (by omega)).2 | (unfold eOn onS; unfold eCr at *; omega)) hP hD hS hl9
                          · have c_308 : py.toInt < (Y i).toInt := zc_nle rfl rfl c_308
                            refine lv_iconst (v := 1) hx hb dX7_where_197 (by decide) ?_
                            refine lv_goto (tgt := 202) hx hb dX7_where_198 (by decide) ?_
                            refine lv_aload_n hx hb dX7_where_202 rfl (lv_at hl 4 rfl) ?_
                            refine va_get (D := (dC, dI)) (ci := 6) (v := .ref ry) (C := RX7) (T := TX7) (N := 4) hx hb hts inX7 hown hK hP 0 rfl rfl 1 (by decide) (hts _ mw_168) (fun _ h9 => h9) rfl dX7_where_203 ?_
                            refine lv_iload hx hb dX7_where_206 (lv_at hl 1 rfl) ?_
                            refine z_iald hx hb hK hP 2 0 rfl rfl (e := nxt n i) rfl (by omega) (by omega) dX7_where_208 ?_
                            refine lv_iload_n hx hb dX7_where_209 rfl (lv_at hl 6 rfl) ?_
                            refine lv_icmp_le (tgt := 217) hx hb dX7_where_210 (by decide) (fun c_321 => ?_) (fun c_321 => ?_)
                            · have c_321 : (Y (nxt n i)).toInt ≤ py.toInt := zc_le rfl rfl c_321
                              refine lv_iconst (v := 0) hx hb dX7_where_217 (by decide) ?_
                              refine lv_icmp_eq (tgt := 266) hx hb dX7_where_218 (by decide) (fun c_322 => ?_) (fun c_322 => ?_)
                              · exact absurd c_322 (by decide)
                              · have c_322 : ¬ 1 = 0 := zc_ne (by decide) (by decide) c_322
                                refine lv_iload hx hb dX7_where_221 (lv_at hl 0 rfl) ?_
                                refine lv_if_le (tgt := 230) hx hb dX7_where_223 (by decide) (fun c_323 => ?_) (fun c_323 => ?_)
                                · have c_323 : (eCr n X Y i px.toInt py.toInt) ≤ 0 := zc_le (iI_toInt (by omega)) (by decide) c_323
                                  refine lv_iconst (v := 0) hx hb dX7_where_230 (by decide) ?_
                                  refine lv_aload_n hx hb dX7_where_231 rfl (lv_at hl 4 rfl) ?_
                                  refine va_get (D := (dC, dI)) (ci := 6) (v := .ref ry) (C := RX7) (T := TX7) (N := 4) hx hb hts inX7 hown hK hP 0 rfl rfl 1 (by decide) (hts _ mw_168) (fun _ h9 => h9) rfl dX7_where_232 ?_
                                  refine lv_iload hx hb dX7_where_235 (lv_at hl 1 rfl) ?_
                                  refine z_iald hx hb hK hP 2 0 rfl rfl (e := nxt n i) rfl (by omega) (by omega) dX7_where_237 ?_
                                  refine lv_aload_n hx hb dX7_where_238 rfl (lv_at hl 4 rfl) ?_
                                  refine va_get (D := (dC, dI)) (ci := 6) (v := .ref ry) (C := RX7) (T := TX7) (N := 4) hx hb hts inX7 hown hK hP 0 rfl rfl 1 (by decide) (hts _ mw_168) (fun _ h9 => h9) rfl dX7_where_239 ?_
                                  refine lv_iload hx hb dX7_where_242 (lv_at hl 2 rfl) ?_
                                  refine z_iald hx hb hK hP 2 0 rfl rfl (e := i) rfl (by omega) (by omega) dX7_where_244 ?_
                                  refine lv_icmp_le (tgt := 252) hx hb dX7_where_245 (by decide) (fun c_324 => ?_) (fun c_324 => ?_)
                                  · have c_324 : (Y (nxt n i)).toInt ≤ (Y i).toInt := zc_le rfl rfl c_324
                                    refine lv_iconst (v := 0) hx hb dX7_where_252 (by decide) ?_
                                    refine lv_icmp_ne (tgt := 266) hx hb dX7_where_253 (by decide) (fun c_325 => ?_) (fun c_325 => ?_)
                                    · exact absurd (by decide) c_325
                                    · have c_325 : 0 = 0 := zc_eq (by decide) (by decide) c_325
                                      refine lv_iload_n hx hb dX7_where_256 rfl (lv_at hl 3 rfl) ?_
                                      refine lv_if_ne (tgt := 264) hx hb dX7_where_257 (by decide) (fun c_326 => ?_) (fun c_326 => ?_)
                                      · have c_326 : par2 (eTg n X Y px.toInt py.toInt) i := zp_1 c_326
                                        refine lv_iconst (v := 0) hx hb dX7_where_264 (by decide) ?_
                                        refine lv_istore_n (lv' := [(3, .int 0), (6, .int (iI (eCr n X Y i px.toInt py.toInt))), (5, .int (nI (nxt n i))), (4, .int (nI i)), (0, .ref r), (1, .int px), (2, .int py)]) hx hb dX7_where_265 rfl hl (by decide) rfl (fun ls hl => ?_)
                                        refine lv_iinc (v := nI (i + 1)) (lv' := [(4, .int (nI (i + 1))), (3, .int 0), (6, .int (iI (eCr n X Y i px.toInt py.toInt))), (5, .int (nI (nxt n i))), (0, .ref r), (1, .int px), (2, .int py)]) hx hb dX7_where_266 hl (k := 3) rfl (nI_add i 1) (by decide) rfl (fun ls hl => ?_)
                                        refine lv_goto (tgt := 5) hx hb dX7_where_269 (by decide) ?_
                                        have hl9 := lv_sub hl [0, 1, 4, 5, 6] rfl
                                        have e9_3 : pI (par2 (eTg n X Y px.toInt py.toInt) (i + 1)) = (0 : Int32) := by first | exact zp_iff (par2_n (sk_tg (by omega)).1) | exact zp_iff (par2_n (by unfold eTg; omega)) | exact zp_t ((par2_y (by unfold eTg; omega)).mpr (by assumption)) | exact zp_f (fun q => (par2_y (by unfold eTg; omega)).mp q (by assumption))
                                        have hl9 : lv_has ls 7 [(4, .int (nI (i + 1))), (3, .int (pI (par2 (eTg n X Y px.toInt py.toInt) (i + 1)))), (0, .ref r), (1, .int px), (2, .int py)] := by rw [e9_3]; exact hl9
                                        exact ih_5 (i + 1) H locs ls (by omega) (by omega) (by intro k hk; rcases Nat.lt_or_ge k i with h | h; exact hno k h; have e9 : k = i := (by omega); subst e9; first | exact (sk_tg (by omega)).2 | (unfold eOn onS; unfold eCr at *; omega)) hP hD hS hl9
                                      · have c_326 : ¬ (par2 (eTg n X Y px.toInt py.toInt) i) := zp_0 c_326
                                        refine lv_iconst (v := 1) hx hb dX7_where_260 (by decide) ?_
                                        refine lv_goto (tgt := 265) hx hb dX7_where_261 (by decide) ?_
                                        refine lv_istore_n (lv' := [(3, .int 1), (6, .int (iI (eCr n X Y i px.toInt py.toInt))), (5, .int (nI (nxt n i))), (4, .int (nI i)), (0, .ref r), (1, .int px), (2, .int py)]) hx hb dX7_where_265 rfl hl (by decide) rfl (fun ls hl => ?_)
                                        refine lv_iinc (v := nI (i + 1)) (lv' := [(4, .int (nI (i + 1))), (3, .int 1), (6, .int (iI (eCr n X Y i px.toInt py.toInt))), (5, .int (nI (nxt n i))), (0, .ref r), (1, .int px), (2, .int py)]) hx hb dX7_where_266 hl (k := 3) rfl (nI_add i 1) (by decide) rfl (fun ls hl => ?_)
                                        refine lv_goto (tgt := 5) hx hb dX7_where_269 (by decide) ?_
                                        have hl9 := lv_sub hl [0, 1, 4, 5, 6] rfl
                                        have e9_3 : pI (par2 (eTg n X Y px.toInt py.toInt) (i + 1)) = (1 : Int32) := by first | exact zp_iff (par2_n (sk_tg (by omega)).1) | exact zp_iff (par2_n (by unfold eTg; omega)) | exact zp_t ((par2_y (by unfold eTg; omega)).mpr (by assumption)) | exact zp_f (fun q => (par2_y (by unfold eTg; omega)).mp q (by assumption))
                                        have hl9 : lv_has ls 7 [(4, .int (nI (i + 1))), (3, .int (pI (par2 (eTg n X Y px.toInt py.toInt) (i + 1)))), (0, .ref r), (1, .int px), (2, .int py)] := by rw [e9_3]; exact hl9
                                        exact ih_5 (i + 1) H locs ls (by omega) (by omega) (by intro k hk; rcases Nat.lt_or_ge k i with h | h; exact hno k h; have e9 : k = i := (by omega); subst e9; first | exact (sk_tg (by omega)).2 | (unfold eOn onS; unfold eCr at *; omega)) hP hD hS hl9
                                  · have c_324 : (Y i).toInt < (Y (nxt n i)).toInt := zc_nle rfl rfl c_324
                                    refine lv_iconst (v := 1) hx hb dX7_where_248 (by decide) ?_
                                    refine lv_goto (tgt := 253) hx hb dX7_where_249 (by decide) ?_
                                    refine lv_icmp_ne (tgt := 266) hx hb dX7_where_253 (by decide) (fun c_327 => ?_) (fun c_327 => ?_)
                                    · have c_327 : ¬ 0 = 1 := zc_ne (by decide) (by decide) c_327
                                      refine lv_iinc (v := nI (i + 1)) (lv' := [(4, .int (nI (i + 1))), (6, .int (iI (eCr n X Y i px.toInt py.toInt))), (5, .int (nI (nxt n i))), (3, .int (pI (par2 (eTg n X Y px.toInt py.toInt) i))), (0, .ref r), (1, .int px), (2, .int py)]) hx hb dX7_where_266 hl (k := 2) rfl (nI_add i 1) (by decide) rfl (fun ls hl => ?_)
                                      refine lv_goto (tgt := 5) hx hb dX7_where_269 (by decide) ?_
                                      have hl9 := lv_sub hl [0, 3, 4, 5, 6] rfl
                                      have e9_3 : pI (par2 (eTg n X Y px.toInt py.toInt) (i + 1)) = (pI (par2 (eTg n X Y px.toInt py.toInt) i) : Int32) := by first | exact zp_iff (par2_n (sk_tg (by omega)).1) | exact zp_iff (par2_n (by unfold eTg; omega)) | exact zp_t ((par2_y (by unfold eTg; omega)).mpr (by assumption)) | exact zp_f (fun q => (par2_y (by unfold eTg; omega)).mp q (by assumption))
                                      have hl9 : lv_has ls 7 [(4, .int (nI (i + 1))), (3, .int (pI (par2 (eTg n X Y px.toInt py.toInt) (i + 1)))), (0, .ref r), (1, .int px), (2, .int py)] := by rw [e9_3]; exact hl9
                                      exact ih_5 (i + 1) H locs ls (by omega) (by omega) (by intro k hk; rcases Nat.lt_or_ge k i with h | h; exact hno k h; have e9 : k = i := (by omega); subst e9; first | exact (sk_tg (by omega)).2 | (unfold eOn onS; unfold eCr at *; omega)) hP hD hS hl9
                                    · exact absurd c_327 (by decide)
                                · have c_323 : 0 < (eCr n X Y i px.toInt py.toInt) := zc_nle (iI_toInt (by omega)) (by decide) c_323
                                  refine lv_iconst (v := 1) hx hb dX7_where_226 (by decide) ?_
                                  refine lv_goto (tgt := 231) hx hb dX7_where_227 (by decide) ?_
                                  refine lv_aload_n hx hb dX7_where_231 rfl (lv_at hl 4 rfl) ?_
                                  refine va_get (D := (dC, dI)) (ci := 6) (v := .ref ry) (C := RX7) (T := TX7) (N := 4) hx hb hts inX7 hown hK hP 0 rfl rfl 1 (by decide) (hts _ mw_168) (fun _ h9 => h9) rfl dX7_where_232 ?_
                                  refine lv_iload hx hb dX7_where_235 (lv_at hl 1 rfl) ?_
                                  refine z_iald hx hb hK hP 2 0 rfl rfl (e := nxt n i) rfl (by omega) (by omega) dX7_where_237 ?_
                                  refine lv_aload_n hx hb dX7_where_238 rfl (lv_at hl 4 rfl) ?_
                                  refine va_get (D := (dC, dI)) (ci := 6) (v := .ref ry) (C := RX7) (T := TX7) (N := 4) hx hb hts inX7 hown hK hP 0 rfl rfl 1 (by decide) (hts _ mw_168) (fun _ h9 => h9) rfl dX7_where_239 ?_
                                  refine lv_iload hx hb dX7_where_242 (lv_at hl 2 rfl) ?_
                                  refine z_iald hx hb hK hP 2 0 rfl rfl (e := i) rfl (by omega) (by omega) dX7_where_244 ?_
                                  refine lv_icmp_le (tgt := 252) hx hb dX7_where_245 (by decide) (fun c_328 => ?_) (fun c_328 => ?_)
                                  · have c_328 : (Y (nxt n i)).toInt ≤ (Y i).toInt := zc_le rfl rfl c_328
                                    refine lv_iconst (v := 0) hx hb dX7_where_252 (by decide) ?_
                                    refine lv_icmp_ne (tgt := 266) hx hb dX7_where_253 (by decide) (fun c_329 => ?_) (fun c_329 => ?_)
                                    · have c_329 : ¬ 1 = 0 := zc_ne (by decide) (by decide) c_329
                                      refine lv_iinc (v := nI (i + 1)) (lv' := [(4, .int (nI (i + 1))), (6, .int (iI (eCr n X Y i px.toInt py.toInt))), (5, .int (nI (nxt n i))), (3, .int (pI (par2 (eTg n X Y px.toInt py.toInt) i))), (0, .ref r), (1, .int px), (2, .int py)]) hx hb dX7_where_266 hl (k := 2) rfl (nI_add i 1) (by decide) rfl (fun ls hl => ?_)
                                      refine lv_goto (tgt := 5) hx hb dX7_where_269 (by decide) ?_
                                      have hl9 := lv_sub hl [0, 3, 4, 5, 6] rfl
                                      have e9_3 : pI (par2 (eTg n X Y px.toInt py.toInt) (i + 1)) = (pI (par2 (eTg n X Y px.toInt py.toInt) i) : Int32) := by first | exact zp_iff (par2_n (sk_tg (by omega)).1) | exact zp_iff (par2_n (by unfold eTg; omega)) | exact zp_t ((par2_y (by unfold eTg; omega)).mpr (by assumption)) | exact zp_f (fun q => (par2_y (by unfold eTg; omega)).mp q (by assumption))
                                      have hl9 : lv_has ls 7 [(4, .int (nI (i + 1))), (3, .int (pI (par2 (eTg n X Y px.toInt py.toInt) (i + 1)))), (0, .ref r), (1, .int px), (2, .int py)] := by rw [e9_3]; exact hl9
                                      exact ih_5 (i + 1) H locs ls (by omega) (by omega) (by intro k hk; rcases Nat.lt_or_ge k i with h | h; exact hno k h; have e9 : k = i := (by omega); subst e9; first | exact (sk_tg (by omega)).2 | (unfold eOn onS; unfold eCr at *; omega)) hP hD hS hl9
                                    · exact absurd c_329 (by decide)
                                  · have c_328 : (Y i).toInt < (Y (nxt n i)).toInt := zc_nle rfl rfl c_328
                                    refine lv_iconst (v := 1) hx hb dX7_where_248 (by decide) ?_
                                    refine lv_goto (tgt := 253) hx hb dX7_where_249 (by decide) ?_
                                    refine lv_icmp_ne (tgt := 266) hx hb dX7_where_253 (by decide) (fun c_330 => ?_) (fun c_330 => ?_)
                                    · exact absurd (by decide) c_330
                                    · have c_330 : 1 = 1 := zc_eq (by decide) (by decide) c_330
                                      refine lv_iload_n hx hb dX7_where_256 rfl (lv_at hl 3 rfl) ?_
                                      refine lv_if_ne (tgt := 264) hx hb dX7_where_257 (by decide) (fun c_331 => ?_) (fun c_331 => ?_)
                                      · have c_331 : par2 (eTg n X Y px.toInt py.toInt) i := zp_1 c_331
                                        refine lv_iconst (v := 0) hx hb dX7_where_264 (by decide) ?_
                                        refine lv_istore_n (lv' := [(3, .int 0), (6, .int (iI (eCr n X Y i px.toInt py.toInt))), (5, .int (nI (nxt n i))), (4, .int (nI i)), (0, .ref r), (1, .int px), (2, .int py)]) hx hb dX7_where_265 rfl hl (by decide) rfl (fun ls hl => ?_)
                                        refine lv_iinc (v := nI (i + 1)) (lv' := [(4, .int (nI (i + 1))), (3, .int 0), (6, .int (iI (eCr n X Y i px.toInt py.toInt))), (5, .int (nI (nxt n i))), (0, .ref r), (1, .int px), (2, .int py)]) hx hb dX7_where_266 hl (k := 3) rfl (nI_add i 1) (by decide) rfl (fun ls hl => ?_)
                                        refine lv_goto (tgt := 5) hx hb dX7_where_269 (by decide) ?_
                                        have hl9 := lv_sub hl [0, 1, 4, 5, 6] rfl
                                        have e9_3 : pI (par2 (eTg n X Y px.toInt py.toInt) (i + 1)) = (0 : Int32) := by first | exact zp_iff (par2_n (sk_tg (by omega)).1) | exact zp_iff (par2_n (by unfold eTg; omega)) | exact zp_t ((par2_y (by unfold eTg; omega)).mpr (by assumption)) | exact zp_f (fun q => (par2_y (by unfold eTg; omega)).mp q (by assumption))
                                        have hl9 : lv_has ls 7 [(4, .int (nI (i + 1))), (3, .int (pI (par2 (eTg n X Y px.toInt py.toInt) (i + 1)))), (0, .ref r), (1, .int px), (2, .int py)] := by rw [e9_3]; exact hl9
                                        exact ih_5 (i + 1) H locs ls (by omega) (by omega) (by intro k hk; rcases Nat.lt_or_ge k i with h | h; exact hno k h; have e9 : k = i := (by omega); subst e9; first | exact (sk_tg (by omega)).2 | (unfold eOn onS; unfold eCr at *; omega)) hP hD hS hl9
                                      · have c_331 : ¬ (par2 (eTg n X Y px.toInt py.toInt) i) := zp_0 c_331
                                        refine lv_iconst (v := 1) hx hb dX7_where_260 (by decide) ?_
                                        refine lv_goto (tgt := 265) hx hb dX7_where_261 (by decide) ?_
                                        refine lv_istore_n (lv' := [(3, .int 1), (6, .int (iI (eCr n X Y i px.toInt py.toInt))), (5, .int (nI (nxt n i))), (4, .int (nI i)), (0, .ref r), (1, .int px), (2, .int py)]) hx hb dX7_where_265 rfl hl (by decide) rfl (fun ls hl => ?_)
                                        refine lv_iinc (v := nI (i + 1)) (lv' := [(4, .int (nI (i + 1))), (3, .int 1), (6, .int (iI (eCr n X Y i px.toInt py.toInt))), (5, .int (nI (nxt n i))), (0, .ref r), (1, .int px), (2, .int py)]) hx hb dX7_where_266 hl (k := 3) rfl (nI_add i 1) (by decide) rfl (fun ls hl => ?_)
                                        refine lv_goto (tgt := 5) hx hb dX7_where_269 (by decide) ?_
                                        have hl9 := lv_sub hl [0, 1, 4, 5, 6] rfl
                                        have e9_3 : pI (par2 (eTg n X Y px.toInt py.toInt) (i + 1)) = (1 : Int32) := by first | exact zp_iff (par2_n (sk_tg (by omega)).1) | exact zp_iff (par2_n (by unfold eTg; omega)) | exact zp_t ((par2_y (by unfold eTg; omega)).mpr (by assumption)) | exact zp_f (fun q => (par2_y (by unfold eTg; omega)).mp q (by assumption))
                                        have hl9 : lv_has ls 7 [(4, .int (nI (i + 1))), (3, .int (pI (par2 (eTg n X Y px.toInt py.toInt) (i + 1)))), (0, .ref r), (1, .int px), (2, .int py)] := by rw [e9_3]; exact hl9
                                        exact ih_5 (i + 1) H locs ls (by omega) (by omega) (by intro k hk; rcases Nat.lt_or_ge k i with h | h; exact hno k h; have e9 : k = i := (by omega); subst e9; first | exact (sk_tg (by omega)).2 | (unfold eOn onS; unfold eCr at *; omega)) hP hD hS hl9
                            · have c_321 : py.toInt < (Y (nxt n i)).toInt := zc_nle rfl rfl c_321
                              refine lv_iconst (v := 1) hx hb dX7_where_213 (by decide) ?_
                              refine lv_goto (tgt := 218) hx hb dX7_where_214 (by decide) ?_
                              refine lv_icmp_eq (tgt := 266) hx hb dX7_where_218 (by decide) (fun c_332 => ?_) (fun c_332 => ?_)
                              · have c_332 : 1 = 1 := zc_eq (by decide) (by decide) c_332
                                refine lv_iinc (v := nI (i + 1)) (lv' := [(4, .int (nI (i + 1))), (6, .int (iI (eCr n X Y i px.toInt py.toInt))), (5, .int (nI (nxt n i))), (3, .int (pI (par2 (eTg n X Y px.toInt py.toInt) i))), (0, .ref r), (1, .int px), (2, .int py)]) hx hb dX7_where_266 hl (k := 2) rfl (nI_add i 1) (by decide) rfl (fun ls hl => ?_)
                                refine lv_goto (tgt := 5) hx hb dX7_where_269 (by decide) ?_
                                have hl9 := lv_sub hl [0, 3, 4, 5, 6] rfl
                                have e9_3 : pI (par2 (eTg n X Y px.toInt py.toInt) (i + 1)) = (pI (par2 (eTg n X Y px.toInt py.toInt) i) : Int32) := by first | exact zp_iff (par2_n (sk_tg (by omega)).1) | exact zp_iff (par2_n (by unfold eTg; omega)) | exact zp_t ((par2_y (by unfold eTg; omega)).mpr (by assumption)) | exact zp_f (fun q => (par2_y (by unfold eTg; omega)).mp q (by assumption))
                                have hl9 : lv_has ls 7 [(4, .int (nI (i + 1))), (3, .int (pI (par2 (eTg n X Y px.toInt py.toInt) (i + 1)))), (0, .ref r), (1, .int px), (2, .int py)] := by rw [e9_3]; exact hl9
                                exact ih_5 (i + 1) H locs ls (by omega) (by omega) (by intro k hk; rcases Nat.lt_or_ge k i with h | h; exact hno k h; have e9 : k = i := (by omega); subst e9; first | exact (sk_tg (by omega)).2 | (unfold eOn onS; unfold eCr at *; omega)) hP hD hS hl9
                              · exact absurd (by decide) c_332
                        · have c_307 : (X (nxt n i)).toInt ≤ px.toInt := zc_nlt rfl rfl c_307
                          refine lv_iconst (v := 2) hx hb dX7_where_184 (by decide) ?_
                          have hP9 := hP.sub (ws' := [(r, .inr (6, [.ref rx, .ref ry, .int (nI n), .int rg])), (rx, .inl (cI, cap, .inl X)), (ry, .inl (cI, cap, .inl Y))]) [0, 1, 2] rfl
                          have hD9 := hD.sub (ws' := [(r, .inr (6, [.ref rx, .ref ry, .int (nI n), .int rg])), (rx, .inl (cI, cap, .inl X)), (ry, .inl (cI, cap, .inl Y))]) [0, 1, 2] (by decide) rfl
                          rw [hQ9]
                          exact W.iret (v := 2) hx hb hr (fun t ht hW => ⟨⟨congrArg (fun z => Outcome.returned (some (Value.int z))) (show (2 : Int32) = whr n X Y px.toInt py.toInt from (whr_2 ⟨i, by omega, by unfold eOn onS; unfold eCr at *; omega⟩).symm), by rw [ht]; exact hP9, hD9⟩, hS.F ht⟩) hS.2.2 dX7_where_185
                  · have c_279 : (X (nxt n i)).toInt < px.toInt := zc_nle rfl rfl c_279
                    refine lv_goto (tgt := 266) hx hb dX7_where_101 (by decide) ?_
                    refine lv_iinc (v := nI (i + 1)) (lv' := [(4, .int (nI (i + 1))), (5, .int (nI (nxt n i))), (3, .int (pI (par2 (eTg n X Y px.toInt py.toInt) i))), (0, .ref r), (1, .int px), (2, .int py)]) hx hb dX7_where_266 hl (k := 1) rfl (nI_add i 1) (by decide) rfl (fun ls hl => ?_)
                    refine lv_goto (tgt := 5) hx hb dX7_where_269 (by decide) ?_
                    have hl9 := lv_sub hl [0, 2, 3, 4, 5] rfl
                    have e9_3 : pI (par2 (eTg n X Y px.toInt py.toInt) (i + 1)) = (pI (par2 (eTg n X Y px.toInt py.toInt) i) : Int32) := by first | exact zp_iff (par2_n (sk_tg (by omega)).1) | exact zp_iff (par2_n (by unfold eTg; omega)) | exact zp_t ((par2_y (by unfold eTg; omega)).mpr (by assumption)) | exact zp_f (fun q => (par2_y (by unfold eTg; omega)).mp q (by assumption))
                    have hl9 : lv_has ls 7 [(4, .int (nI (i + 1))), (3, .int (pI (par2 (eTg n X Y px.toInt py.toInt) (i + 1)))), (0, .ref r), (1, .int px), (2, .int py)] := by rw [e9_3]; exact hl9
                    exact ih_5 (i + 1) H locs ls (by omega) (by omega) (by intro k hk; rcases Nat.lt_or_ge k i with h | h; exact hno k h; have e9 : k = i := (by omega); subst e9; first | exact (sk_tg (by omega)).2 | (unfold eOn onS; unfold eCr at *; omega)) hP hD hS hl9
              · have c_224 : (Y i).toInt < py.toInt := zc_nle rfl rfl c_224
                refine lv_aload_n hx hb dX7_where_68 rfl (lv_at hl 3 rfl) ?_
                refine va_get (D := (dC, dI)) (ci := 6) (v := .ref ry) (C := RX7) (T := TX7) (N := 4) hx hb hts inX7 hown hK hP 0 rfl rfl 1 (by decide) (hts _ mw_168) (fun _ h9 => h9) rfl dX7_where_69 ?_
                refine lv_iload hx hb dX7_where_72 (lv_at hl 0 rfl) ?_
                refine z_iald hx hb hK hP 2 0 rfl rfl (e := nxt n i) rfl (by omega) (by omega) dX7_where_74 ?_
                refine lv_iload_n hx hb dX7_where_75 rfl (lv_at hl 5 rfl) ?_
                refine lv_icmp_lt (tgt := 266) hx hb dX7_where_76 (by decide) (fun c_333 => ?_) (fun c_333 => ?_)
                · have c_333 : (Y (nxt n i)).toInt < py.toInt := zc_lt rfl rfl c_333
                  refine lv_iinc (v := nI (i + 1)) (lv' := [(4, .int (nI (i + 1))), (5, .int (nI (nxt n i))), (3, .int (pI (par2 (eTg n X Y px.toInt py.toInt) i))), (0, .ref r), (1, .int px), (2, .int py)]) hx hb dX7_where_266 hl (k := 1) rfl (nI_add i 1) (by decide) rfl (fun ls hl => ?_)
                  refine lv_goto (tgt := 5) hx hb dX7_where_269 (by decide) ?_
                  have hl9 := lv_sub hl [0, 2, 3, 4, 5] rfl
                  have e9_3 : pI (par2 (eTg n X Y px.toInt py.toInt) (i + 1)) = (pI (par2 (eTg n X Y px.toInt py.toInt) i) : Int32) := by first | exact zp_iff (par2_n (sk_tg (by omega)).1) | exact zp_iff (par2_n (by unfold eTg; omega)) | exact zp_t ((par2_y (by unfold eTg; omega)).mpr (by assumption)) | exact zp_f (fun q => (par2_y (by unfold eTg; omega)).mp q (by assumption))
                  have hl9 : lv_has ls 7 [(4, .int (nI (i + 1))), (3, .int (pI (par2 (eTg n X Y px.toInt py.toInt) (i + 1)))), (0, .ref r), (1, .int px), (2, .int py)] := by rw [e9_3]; exact hl9
                  exact ih_5 (i + 1) H locs ls (by omega) (by omega) (by intro k hk; rcases Nat.lt_or_ge k i with h | h; exact hno k h; have e9 : k = i := (by omega); subst e9; first | exact (sk_tg (by omega)).2 | (unfold eOn onS; unfold eCr at *; omega)) hP hD hS hl9
                · have c_333 : py.toInt ≤ (Y (nxt n i)).toInt := zc_nlt rfl rfl c_333
                  refine lv_aload_n hx hb dX7_where_79 rfl (lv_at hl 3 rfl) ?_
                  refine va_get (D := (dC, dI)) (ci := 6) (v := .ref rx) (C := RX7) (T := TX7) (N := 4) hx hb hts inX7 hown hK hP 0 rfl rfl 0 (by decide) (hts _ mw_161) (fun _ h9 => h9) rfl dX7_where_80 ?_
                  refine lv_iload hx hb dX7_where_83 (lv_at hl 1 rfl) ?_
                  refine z_iald hx hb hK hP 1 0 rfl rfl (e := i) rfl (by omega) (by omega) dX7_where_85 ?_
                  refine lv_iload_n hx hb dX7_where_86 rfl (lv_at hl 4 rfl) ?_
                  refine lv_icmp_ge (tgt := 104) hx hb dX7_where_87 (by decide) (fun c_334 => ?_) (fun c_334 => ?_)
                  · have c_334 : px.toInt ≤ (X i).toInt := zc_le rfl rfl c_334
                    refine lv_aload_n hx hb dX7_where_104 rfl (lv_at hl 3 rfl) ?_
                    refine va_get (D := (dC, dI)) (ci := 6) (v := .ref rx) (C := RX7) (T := TX7) (N := 4) hx hb hts inX7 hown hK hP 0 rfl rfl 0 (by decide) (hts _ mw_161) (fun _ h9 => h9) rfl dX7_where_105 ?_
                    refine lv_iload hx hb dX7_where_108 (lv_at hl 0 rfl) ?_
                    refine z_iald hx hb hK hP 1 0 rfl rfl (e := nxt n i) rfl (by omega) (by omega) dX7_where_110 ?_
                    refine lv_aload_n hx hb dX7_where_111 rfl (lv_at hl 3 rfl) ?_
                    refine va_get (D := (dC, dI)) (ci := 6) (v := .ref rx) (C := RX7) (T := TX7) (N := 4) hx hb hts inX7 hown hK hP 0 rfl rfl 0 (by decide) (hts _ mw_161) (fun _ h9 => h9) rfl dX7_where_112 ?_
                    refine lv_iload hx hb dX7_where_115 (lv_at hl 1 rfl) ?_
                    refine z_iald hx hb hK hP 1 0 rfl rfl (e := i) rfl (by omega) (by omega) dX7_where_117 ?_
                    refine lv_isub hx hb dX7_where_118 ?_
                    refine lv_iload_n hx hb dX7_where_119 rfl (lv_at hl 5 rfl) ?_
                    refine lv_aload_n hx hb dX7_where_120 rfl (lv_at hl 3 rfl) ?_
                    refine va_get (D := (dC, dI)) (ci := 6) (v := .ref ry) (C := RX7) (T := TX7) (N := 4) hx hb hts inX7 hown hK hP 0 rfl rfl 1 (by decide) (hts _ mw_168) (fun _ h9 => h9) rfl dX7_where_121 ?_
                    refine lv_iload hx hb dX7_where_124 (lv_at hl 1 rfl) ?_
                    refine z_iald hx hb hK hP 2 0 rfl rfl (e := i) rfl (by omega) (by omega) dX7_where_126 ?_
                    refine lv_isub hx hb dX7_where_127 ?_
                    refine lv_imul hx hb dX7_where_128 ?_
                    refine lv_aload_n hx hb dX7_where_129 rfl (lv_at hl 3 rfl) ?_
                    refine va_get (D := (dC, dI)) (ci := 6) (v := .ref ry) (C := RX7) (T := TX7) (N := 4) hx hb hts inX7 hown hK hP 0 rfl rfl 1 (by decide) (hts _ mw_168) (fun _ h9 => h9) rfl dX7_where_130 ?_
                    refine lv_iload hx hb dX7_where_133 (lv_at hl 0 rfl) ?_
                    refine z_iald hx hb hK hP 2 0 rfl rfl (e := nxt n i) rfl (by omega) (by omega) dX7_where_135 ?_
                    refine lv_aload_n hx hb dX7_where_136 rfl (lv_at hl 3 rfl) ?_
                    refine va_get (D := (dC, dI)) (ci := 6) (v := .ref ry) (C := RX7) (T := TX7) (N := 4) hx hb hts inX7 hown hK hP 0 rfl rfl 1 (by decide) (hts _ mw_168) (fun _ h9 => h9) rfl dX7_where_137 ?_
                    refine lv_iload hx hb dX7_where_140 (lv_at hl 1 rfl) ?_
                    refine z_iald hx hb hK hP 2 0 rfl rfl (e := i) rfl (by omega) (by omega) dX7_where_142 ?_
                    refine lv_isub hx hb dX7_where_143 ?_
                    refine lv_iload_n hx hb dX7_where_144 rfl (lv_at hl 4 rfl) ?_
                    refine lv_aload_n hx hb dX7_where_145 rfl (lv_at hl 3 rfl) ?_
                    refine va_get (D := (dC, dI)) (ci := 6) (v := .ref rx) (C := RX7) (T := TX7) (N := 4) hx hb hts inX7 hown hK hP 0 rfl rfl 0 (by decide) (hts _ mw_161) (fun _ h9 => h9) rfl dX7_where_146 ?_
                    refine lv_iload hx hb dX7_where_149 (lv_at hl 1 rfl) ?_
                    refine z_iald hx hb hK hP 1 0 rfl rfl (e := i) rfl (by omega) (by omega) dX7_where_151 ?_
                    refine lv_isub hx hb dX7_where_152 ?_
                    refine lv_imul hx hb dX7_where_153 ?_
                    refine lv_isub hx hb dX7_where_154 ?_
                    refine zz_i (v := iI (eCr n X Y i px.toInt py.toInt)) (crI (hp i (by omega)).1 (hp i (by omega)).2 (hp _ hnx).1 (hp _ hnx).2 hpx hpy) ?_
                    have hB1 := crBp (hp i (by omega)).1 (hp i (by omega)).2 (hp _ hnx).1 (hp _ hnx).2 hpx hpy
                    have hB1 : -2000000 ≤ eCr n X Y i px.toInt py.toInt ∧ eCr n X Y i px.toInt py.toInt ≤ 2000000 := hB1
                    refine lv_istore (lv' := [(6, .int (iI (eCr n X Y i px.toInt py.toInt))), (5, .int (nI (nxt n i))), (4, .int (nI i)), (3, .int (pI (par2 (eTg n X Y px.toInt py.toInt) i))), (0, .ref r), (1, .int px), (2, .int py)]) hx hb dX7_where_155 hl (by decide) rfl (fun ls hl => ?_)
                    refine lv_iload hx hb dX7_where_157 (lv_at hl 0 rfl) ?_
                    refine lv_if_ne (tgt := 186) hx hb dX7_where_159 (by decide) (fun c_335 => ?_) (fun c_335 => ?_)
                    · have c_335 : ¬ (eCr n X Y i px.toInt py.toInt) = 0 := zc_ne (iI_toInt (by omega)) (by decide) c_335
                      refine lv_aload_n hx hb dX7_where_186 rfl (lv_at hl 4 rfl) ?_
                      refine va_get (D := (dC, dI)) (ci := 6) (v := .ref ry) (C := RX7) (T := TX7) (N := 4) hx hb hts inX7 hown hK hP 0 rfl rfl 1 (by decide) (hts _ mw_168) (fun _ h9 => h9) rfl dX7_where_187 ?_
                      refine lv_iload hx hb dX7_where_190 (lv_at hl 2 rfl) ?_
                      refine z_iald hx hb hK hP 2 0 rfl rfl (e := i) rfl (by omega) (by omega) dX7_where_192 ?_
                      refine lv_iload_n hx hb dX7_where_193 rfl (lv_at hl 6 rfl) ?_
                      refine lv_icmp_le (tgt := 201) hx hb dX7_where_194 (by decide) (fun c_336 => ?_) (fun c_336 => ?_)
                      · have c_336 : (Y i).toInt ≤ py.toInt := zc_le rfl rfl c_336
                        refine lv_iconst (v := 0) hx hb dX7_where_201 (by decide) ?_
                        refine lv_aload_n hx hb dX7_where_202 rfl (lv_at hl 4 rfl) ?_
                        refine va_get (D := (dC, dI)) (ci := 6) (v := .ref ry) (C := RX7) (T := TX7) (N := 4) hx hb hts inX7 hown hK hP 0 rfl rfl 1 (by decide) (hts _ mw_168) (fun _ h9 => h9) rfl dX7_where_203 ?_
                        refine lv_iload hx hb dX7_where_206 (lv_at hl 1 rfl) ?_
                        refine z_iald hx hb hK hP 2 0 rfl rfl (e := nxt n i) rfl (by omega) (by omega) dX7_where_208 ?_
                        refine lv_iload_n hx hb dX7_where_209 rfl (lv_at hl 6 rfl) ?_
                        refine lv_icmp_le (tgt := 217) hx hb dX7_where_210 (by decide) (fun c_337 => ?_) (fun c_337 => ?_)
                        · have c_337 : (Y (nxt n i)).toInt ≤ py.toInt := zc_le rfl rfl c_337
                          refine lv_iconst (v := 0) hx hb dX7_where_217 (by decide) ?_
                          refine lv_icmp_eq (tgt := 266) hx hb dX7_where_218 (by decide) (fun c_338 => ?_) (fun c_338 => ?_)
                          · have c_338 : 0 = 0 := zc_eq (by decide) (by decide) c_338
                            refine lv_iinc (v := nI (i + 1)) (lv' := [(4, .int (nI (i + 1))), (6, .int (iI (eCr n X Y i px.toInt py.toInt))), (5, .int (nI (nxt n i))), (3, .int (pI (par2 (eTg n X Y px.toInt py.toInt) i))), (0, .ref r), (1, .int px), (2, .int py)]) hx hb dX7_where_266 hl (k := 2) rfl (nI_add i 1) (by decide) rfl (fun ls hl => ?_)
                            refine lv_goto (tgt := 5) hx hb dX7_where_269 (by decide) ?_
                            have hl9 := lv_sub hl [0, 3, 4, 5, 6] rfl
                            have e9_3 : pI (par2 (eTg n X Y px.toInt py.toInt) (i + 1)) = (pI (par2 (eTg n X Y px.toInt py.toInt) i) : Int32) := by first | exact zp_iff (par2_n (sk_tg (by omega)).1) | exact zp_iff (par2_n (by unfold eTg; omega)) | exact zp_t ((par2_y (by unfold eTg; omega)).mpr (by assumption)) | exact zp_f (fun q => (par2_y (by unfold eTg; omega)).mp q (by assumption))
                            have hl9 : lv_has ls 7 [(4, .int (nI (i + 1))), (3, .int (pI (par2 (eTg n X Y px.toInt py.toInt) (i + 1)))), (0, .ref r), (1, .int px), (2, .int py)] := by rw [e9_3]; exact hl9
                            exact ih_5 (i + 1) H locs ls (by omega) (by omega) (by intro k hk; rcases Nat.lt_or_ge k i with h | h; exact hno k h; have e9 : k = i := (by omega); subst e9; first | exact (sk_tg (by omega)).2 | (unfold eOn onS; unfold eCr at *; omega)) hP hD hS hl9
                          · exact absurd (by decide) c_338
                        · have c_337 : py.toInt < (Y (nxt n i)).toInt := zc_nle rfl rfl c_337
                          refine lv_iconst (v := 1) hx hb dX7_where_213 (by decide) ?_
                          refine lv_goto (tgt := 218) hx hb dX7_where_214 (by decide) ?_
                          refine lv_icmp_eq (tgt := 266) hx hb dX7_where_218 (by decide) (fun c_339 => ?_) (fun c_339 => ?_)
                          · exact absurd c_339 (by decide)
                          · have c_339 : ¬ 0 = 1 := zc_ne (by decide) (by decide) c_339
                            refine lv_iload hx hb dX7_where_221 (lv_at hl 0 rfl) ?_
                            refine lv_if_le (tgt := 230) hx hb dX7_where_223 (by decide) (fun c_340 => ?_) (fun c_340 => ?_)
                            · have c_340 : (eCr n X Y i px.toInt py.toInt) ≤ 0 := zc_le (iI_toInt (by omega)) (by decide) c_340
                              refine lv_iconst (v := 0) hx hb dX7_where_230 (by decide) ?_
                              refine lv_aload_n hx hb dX7_where_231 rfl (lv_at hl 4 rfl) ?_
                              refine va_get (D := (dC, dI)) (ci := 6) (v := .ref ry) (C := RX7) (T := TX7) (N := 4) hx hb hts inX7 hown hK hP 0 rfl rfl 1 (by decide) (hts _ mw_168) (fun _ h9 => h9) rfl dX7_where_232 ?_
                              refine lv_iload hx hb dX7_where_235 (lv_at hl 1 rfl) ?_
                              refine z_iald hx hb hK hP 2 0 rfl rfl (e := nxt n i) rfl (by omega) (by omega) dX7_where_237 ?_
                              refine lv_aload_n hx hb dX7_where_238 rfl (lv_at hl 4 rfl) ?_
                              refine va_get (D := (dC, dI)) (ci := 6) (v := .ref ry) (C := RX7) (T := TX7) (N := 4) hx hb hts inX7 hown hK hP 0 rfl rfl 1 (by decide) (hts _ mw_168) (fun _ h9 => h9) rfl dX7_where_239 ?_
                              refine lv_iload hx hb dX7_where_242 (lv_at hl 2 rfl) ?_
                              refine z_iald hx hb hK hP 2 0 rfl rfl (e := i) rfl (by omega) (by omega) dX7_where_244 ?_
                              refine lv_icmp_le (tgt := 252) hx hb dX7_where_245 (by decide) (fun c_341 => ?_) (fun c_341 => ?_)
                              · have c_341 : (Y (nxt n i)).toInt ≤ (Y i).toInt := zc_le rfl rfl c_341
                                refine lv_iconst (v := 0) hx hb dX7_where_252 (by decide) ?_
                                refine lv_icmp_ne (tgt := 266) hx hb dX7_where_253 (by decide) (fun c_342 => ?_) (fun c_342 => ?_)
                                · exact absurd (by decide) c_342
                                · have c_342 : 0 = 0 := zc_eq (by decide) (by decide) c_342
                                  refine lv_iload_n hx hb dX7_where_256 rfl (lv_at hl 3 rfl) ?_
                                  refine lv_if_ne (tgt := 264) hx hb dX7_where_257 (by decide) (fun c_343 => ?_) (fun c_343 => ?_)
                                  · have c_343 : par2 (eTg n X Y px.toInt py.toInt) i := zp_1 c_343
                                    refine lv_iconst (v := 0) hx hb dX7_where_264 (by decide) ?_
                                    refine lv_istore_n (lv' := [(3, .int 0), (6, .int (iI (eCr n X Y i px.toInt py.toInt))), (5, .int (nI (nxt n i))), (4, .int (nI i)), (0, .ref r), (1, .int px), (2, .int py)]) hx hb dX7_where_265 rfl hl (by decide) rfl (fun ls hl => ?_)
                                    refine lv_iinc (v := nI (i + 1)) (lv' := [(4, .int (nI (i + 1))), (3, .int 0), (6, .int (iI (eCr n X Y i px.toInt py.toInt))), (5, .int (nI (nxt n i))), (0, .ref r), (1, .int px), (2, .int py)]) hx hb dX7_where_266 hl (k := 3) rfl (nI_add i 1) (by decide) rfl (fun ls hl => ?_)
                                    refine lv_goto (tgt := 5) hx hb dX7_where_269 (by decide) ?_
                                    have hl9 := lv_sub hl [0, 1, 4, 5, 6] rfl
                                    have e9_3 : pI (par2 (eTg n X Y px.toInt py.toInt) (i + 1)) = (0 : Int32) := by first | exact zp_iff (par2_n (sk_tg (by omega)).1) | exact zp_iff (par2_n (by unfold eTg; omega)) | exact zp_t ((par2_y (by unfold eTg; omega)).mpr (by assumption)) | exact zp_f (fun q => (par2_y (by unfold eTg; omega)).mp q (by assumption))
                                    have hl9 : lv_has ls 7 [(4, .int (nI (i + 1))), (3, .int (pI (par2 (eTg n X Y px.toInt py.toInt) (i + 1)))), (0, .ref r), (1, .int px), (2, .int py)] := by rw [e9_3]; exact hl9
                                    exact ih_5 (i + 1) H locs ls (by omega) (by omega) (by intro k hk; rcases Nat.lt_or_ge k i with h | h; exact hno k h; have e9 : k = i := (by omega); subst e9; first | exact (sk_tg (by omega)).2 | (unfold eOn onS; unfold eCr at *; omega)) hP hD hS hl9
                                  · have c_343 : ¬ (par2 (eTg n X Y px.toInt py.toInt) i) := zp_0 c_343
                                    refine lv_iconst (v := 1) hx hb dX7_where_260 (by decide) ?_
                                    refine lv_goto (tgt := 265) hx hb dX7_where_261 (by decide) ?_
                                    refine lv_istore_n (lv' := [(3, .int 1), (6, .int (iI (eCr n X Y i px.toInt py.toInt))), (5, .int (nI (nxt n i))), (4, .int (nI i)), (0, .ref r), (1, .int px), (2, .int py)]) hx hb dX7_where_265 rfl hl (by decide) rfl (fun ls hl => ?_)
                                    refine lv_iinc (v := nI (i + 1)) (lv' := [(4, .int (nI (i + 1))), (3, .int 1), (6, .int (iI (eCr n X Y i px.toInt py.toInt))), (5, .int (nI (nxt n i))), (0, .ref r), (1, .int px), (2, .int py)]) hx hb dX7_where_266 hl (k := 3) rfl (nI_add i 1) (by decide) rfl (fun ls hl => ?_)
                                    refine lv_goto (tgt := 5) hx hb dX7_where_269 (by decide) ?_
                                    have hl9 := lv_sub hl [0, 1, 4, 5, 6] rfl
                                    have e9_3 : pI (par2 (eTg n X Y px.toInt py.toInt) (i + 1)) = (1 : Int32) := by first | exact zp_iff (par2_n (sk_tg (by omega)).1) | exact zp_iff (par2_n (by unfold eTg; omega)) | exact zp_t ((par2_y (by unfold eTg; omega)).mpr (by assumption)) | exact zp_f (fun q => (par2_y (by unfold eTg; omega)).mp q (by assumption))
                                    have hl9 : lv_has ls 7 [(4, .int (nI (i + 1))), (3, .int (pI (par2 (eTg n X Y px.toInt py.toInt) (i + 1)))), (0, .ref r), (1, .int px), (2, .int py)] := by rw [e9_3]; exact hl9
                                    exact ih_5 (i + 1) H locs ls (by omega) (by omega) (by intro k hk; rcases Nat.lt_or_ge k i with h | h; exact hno k h; have e9 : k = i := (by omega); subst e9; first | exact (sk_tg (by omega)).2 | (unfold eOn onS; unfold eCr at *; omega)) hP hD hS hl9
                              · have c_341 : (Y i).toInt < (Y (nxt n i)).toInt := zc_nle rfl rfl c_341
                                refine lv_iconst (v := 1) hx hb dX7_where_248 (by decide) ?_
                                refine lv_goto (tgt := 253) hx hb dX7_where_249 (by decide) ?_
                                refine lv_icmp_ne (tgt := 266) hx hb dX7_where_253 (by decide) (fun c_344 => ?_) (fun c_344 => ?_)
                                · have c_344 : ¬ 0 = 1 := zc_ne (by decide) (by decide) c_344
                                  refine lv_iinc (v := nI (i + 1)) (lv' := [(4, .int (nI (i + 1))), (6, .int (iI (eCr n X Y i px.toInt py.toInt))), (5, .int (nI (nxt n i))), (3, .int (pI (par2 (eTg n X Y px.toInt py.toInt) i))), (0, .ref r), (1, .int px), (2, .int py)]) hx hb dX7_where_266 hl (k := 2) rfl (nI_add i 1) (by decide) rfl (fun ls hl => ?_)
                                  refine lv_goto (tgt := 5) hx hb dX7_where_269 (by decide) ?_
                                  have hl9 := lv_sub hl [0, 3, 4, 5, 6] rfl
                                  have e9_3 : pI (par2 (eTg n X Y px.toInt py.toInt) (i + 1)) = (pI (par2 (eTg n X Y px.toInt py.toInt) i) : Int32) := by first | exact zp_iff (par2_n (sk_tg (by omega)).1) | exact zp_iff (par2_n (by unfold eTg; omega)) | exact zp_t ((par2_y (by unfold eTg; omega)).mpr (by assumption)) | exact zp_f (fun q => (par2_y (by unfold eTg; omega)).mp q (by assumption))
                                  have hl9 : lv_has ls 7 [(4, .int (nI (i + 1))), (3, .int (pI (par2 (eTg n X Y px.toInt py.toInt) (i + 1)))), (0, .ref r), (1, .int px), (2, .int py)] := by rw [e9_3]; exact hl9
                                  exact ih_5 (i + 1) H locs ls (by omega) (by omega) (by intro k hk; rcases Nat.lt_or_ge k i with h | h; exact hno k h; have e9 : k = i := (by omega); subst e9; first | exact (sk_tg (by omega)).2 | (unfold eOn onS; unfold eCr at *; omega)) hP hD hS hl9
                                · exact absurd c_344 (by decide)
                            · have c_340 : 0 < (eCr n X Y i px.toInt py.toInt) := zc_nle (iI_toInt (by omega)) (by decide) c_340
                              refine lv_iconst (v := 1) hx hb dX7_where_226 (by decide) ?_
                              refine lv_goto (tgt := 231) hx hb dX7_where_227 (by decide) ?_
                              refine lv_aload_n hx hb dX7_where_231 rfl (lv_at hl 4 rfl) ?_
                              refine va_get (D := (dC, dI)) (ci := 6) (v := .ref ry) (C := RX7) (T := TX7) (N := 4) hx hb hts inX7 hown hK hP 0 rfl rfl 1 (by decide) (hts _ mw_168) (fun _ h9 => h9) rfl dX7_where_232 ?_
                              refine lv_iload hx hb dX7_where_235 (lv_at hl 1 rfl) ?_
                              refine z_iald hx hb hK hP 2 0 rfl rfl (e := nxt n i) rfl (by omega) (by omega) dX7_where_237 ?_
                              refine lv_aload_n hx hb dX7_where_238 rfl (lv_at hl 4 rfl) ?_
                              refine va_get (D := (dC, dI)) (ci := 6) (v := .ref ry) (C := RX7) (T := TX7) (N := 4) hx hb hts inX7 hown hK hP 0 rfl rfl 1 (by decide) (hts _ mw_168) (fun _ h9 => h9) rfl dX7_where_239 ?_
                              refine lv_iload hx hb dX7_where_242 (lv_at hl 2 rfl) ?_
                              refine z_iald hx hb hK hP 2 0 rfl rfl (e := i) rfl (by omega) (by omega) dX7_where_244 ?_
                              refine lv_icmp_le (tgt := 252) hx hb dX7_where_245 (by decide) (fun c_345 => ?_) (fun c_345 => ?_)
                              · have c_345 : (Y (nxt n i)).toInt ≤ (Y i).toInt := zc_le rfl rfl c_345
                                refine lv_iconst (v := 0) hx hb dX7_where_252 (by decide) ?_
                                refine lv_icmp_ne (tgt := 266) hx hb dX7_where_253 (by decide) (fun c_346 => ?_) (fun c_346 => ?_)
                                · have c_346 : ¬ 1 = 0 := zc_ne (by decide) (by decide) c_346
                                  refine lv_iinc (v := nI (i + 1)) (lv' := [(4, .int (nI (i + 1))), (6, .int (iI (eCr n X Y i px.toInt py.toInt))), (5, .int (nI (nxt n i))), (3, .int (pI (par2 (eTg n X Y px.toInt py.toInt) i))), (0, .ref r), (1, .int px), (2, .int py)]) hx hb dX7_where_266 hl (k := 2) rfl (nI_add i 1) (by decide) rfl (fun ls hl => ?_)
                                  refine lv_goto (tgt := 5) hx hb dX7_where_269 (by decide) ?_
                                  have hl9 := lv_sub hl [0, 3, 4, 5, 6] rfl
                                  have e9_3 : pI (par2 (eTg n X Y px.toInt py.toInt) (i + 1)) = (pI (par2 (eTg n X Y px.toInt py.toInt) i) : Int32) := by first | exact zp_iff (par2_n (sk_tg (by omega)).1) | exact zp_iff (par2_n (by unfold eTg; omega)) | exact zp_t ((par2_y (by unfold eTg; omega)).mpr (by assumption)) | exact zp_f (fun q => (par2_y (by unfold eTg; omega)).mp q (by assumption))
                                  have hl9 : lv_has ls 7 [(4, .int (nI (i + 1))), (3, .int (pI (par2 (eTg n X Y px.toInt py.toInt) (i + 1)))), (0, .ref r), (1, .int px), (2, .int py)] := by rw [e9_3]; exact hl9
                                  exact ih_5 (i + 1) H locs ls (by omega) (by omega) (by intro k hk; rcases Nat.lt_or_ge k i with h | h; exact hno k h; have e9 : k = i := (by omega); subst e9; first | exact (sk_tg (by omega)).2 | (unfold eOn onS; unfold eCr at *; omega)) hP hD hS hl9
                                · exact absurd c_346 (by decide)
                              · have c_345 : (Y i).toInt < (Y (nxt n i)).toInt := zc_nle rfl rfl c_345
                                refine lv_iconst (v := 1) hx hb dX7_where_248 (by decide) ?_
                                refine lv_goto (tgt := 253) hx hb dX7_where_249 (by decide) ?_
                                refine lv_icmp_ne (tgt := 266) hx hb dX7_where_253 (by decide) (fun c_347 => ?_) (fun c_347 => ?_)
                                · exact absurd (by decide) c_347
                                · have c_347 : 1 = 1 := zc_eq (by decide) (by decide) c_347
                                  refine lv_iload_n hx hb dX7_where_256 rfl (lv_at hl 3 rfl) ?_
                                  refine lv_if_ne (tgt := 264) hx hb dX7_where_257 (by decide) (fun c_348 => ?_) (fun c_348 => ?_)
                                  · have c_348 : par2 (eTg n X Y px.toInt py.toInt) i := zp_1 c_348
                                    refine lv_iconst (v := 0) hx hb dX7_where_264 (by decide) ?_
                                    refine lv_istore_n (lv' := [(3, .int 0), (6, .int (iI (eCr n X Y i px.toInt py.toInt))), (5, .int (nI (nxt n i))), (4, .int (nI i)), (0, .ref r), (1, .int px), (2, .int py)]) hx hb dX7_where_265 rfl hl (by decide) rfl (fun ls hl => ?_)
                                    refine lv_iinc (v := nI (i + 1)) (lv' := [(4, .int (nI (i + 1))), (3, .int 0), (6, .int (iI (eCr n X Y i px.toInt py.toInt))), (5, .int (nI (nxt n i))), (0, .ref r), (1, .int px), (2, .int py)]) hx hb dX7_where_266 hl (k := 3) rfl (nI_add i 1) (by decide) rfl (fun ls hl => ?_)
                                    refine lv_goto (tgt := 5) hx hb dX7_where_269 (by decide) ?_
                                    have hl9 := lv_sub hl [0, 1, 4, 5, 6] rfl
                                    have e9_3 : pI (par2 (eTg n X Y px.toInt py.toInt) (i + 1)) = (0 : Int32) := by first | exact zp_iff (par2_n (sk_tg (by omega)).1) | exact zp_iff (par2_n (by unfold eTg; omega)) | exact zp_t ((par2_y (by unfold eTg; omega)).mpr (by assumption)) | exact zp_f (fun q => (par2_y (by unfold eTg; omega)).mp q (by assumption))
                                    have hl9 : lv_has ls 7 [(4, .int (nI (i + 1))), (3, .int (pI (par2 (eTg n X Y px.toInt py.toInt) (i + 1)))), (0, .ref r), (1, .int px), (2, .int py)] := by rw [e9_3]; exact hl9
                                    exact ih_5 (i + 1) H locs ls (by omega) (by omega) (by intro k hk; rcases Nat.lt_or_ge k i with h | h; exact hno k h; have e9 : k = i := (by omega); subst e9; first | exact (sk_tg (by omega)).2 | (unfold eOn onS; unfold eCr at *; omega)) hP hD hS hl9
                                  · have c_348 : ¬ (par2 (eTg n X Y px.toInt py.toInt) i) := zp_0 c_348
                                    refine lv_iconst (v := 1) hx hb dX7_where_260 (by decide) ?_
                                    refine lv_goto (tgt := 265) hx hb dX7_where_261 (by decide) ?_
                                    refine lv_istore_n (lv' := [(3, .int 1), (6, .int (iI (eCr n X Y i px.toInt py.toInt))), (5, .int (nI (nxt n i))), (4, .int (nI i)), (0, .ref r), (1, .int px), (2, .int py)]) hx hb dX7_where_265 rfl hl (by decide) rfl (fun ls hl => ?_)
                                    refine lv_iinc (v := nI (i + 1)) (lv' := [(4, .int (nI (i + 1))), (3, .int 1), (6, .int (iI (eCr n X Y i px.toInt py.toInt))), (5, .int (nI (nxt n i))), (0, .ref r), (1, .int px), (2, .int py)]) hx hb dX7_where_266 hl (k := 3) rfl (nI_add i 1) (by decide) rfl (fun ls hl => ?_)
                                    refine lv_goto (tgt := 5) hx hb dX7_where_269 (by decide) ?_
                                    have hl9 := lv_sub hl [0, 1, 4, 5, 6] rfl
                                    have e9_3 : pI (par2 (eTg n X Y px.toInt py.toInt) (i + 1)) = (1 : Int32) := by first | exact zp_iff (par2_n (sk_tg (by omega)).1) | exact zp_iff (par2_n (by unfold eTg; omega)) | exact zp_t ((par2_y (by unfold eTg; omega)).mpr (by assumption)) | exact zp_f (fun q => (par2_y (by unfold eTg; omega)).mp q (by assumption))
                                    have hl9 : lv_has ls 7 [(4, .int (nI (i + 1))), (3, .int (pI (par2 (eTg n X Y px.toInt py.toInt) (i + 1)))), (0, .ref r), (1, .int px), (2, .int py)] := by rw [e9_3]; exact hl9
                                    exact ih_5 (i + 1) H locs ls (by omega) (by omega) (by intro k hk; rcases Nat.lt_or_ge k i with h | h; exact hno k h; have e9 : k = i := (by omega); subst e9; first | exact (sk_tg (by omega)).2 | (unfold eOn onS; unfold eCr at *; omega)) hP hD hS hl9
                      · have c_336 : py.toInt < (Y i).toInt := zc_nle rfl rfl c_336
                        refine lv_iconst (v := 1) hx hb dX7_where_197 (by decide) ?_
                        refine lv_goto (tgt := 202) hx hb dX7_where_198 (by decide) ?_
                        refine lv_aload_n hx hb dX7_where_202 rfl (lv_at hl 4 rfl) ?_
                        refine va_get (D := (dC, dI)) (ci := 6) (v := .ref ry) (C := RX7) (T := TX7) (N := 4) hx hb hts inX7 hown hK hP 0 rfl rfl 1 (by decide) (hts _ mw_168) (fun _ h9 => h9) rfl dX7_where_203 ?_
                        refine lv_iload hx hb dX7_where_206 (lv_at hl 1 rfl) ?_
                        refine z_iald hx hb hK hP 2 0 rfl rfl (e := nxt n i) rfl (by omega) (by omega) dX7_where_208 ?_
                        refine lv_iload_n hx hb dX7_where_209 rfl (lv_at hl 6 rfl) ?_
                        refine lv_icmp_le (tgt := 217) hx hb dX7_where_210 (by decide) (fun c_349 => ?_) (fun c_349 => ?_)
                        · have c_349 : (Y (nxt n i)).toInt ≤ py.toInt := zc_le rfl rfl c_349
                          refine lv_iconst (v := 0) hx hb dX7_where_217 (by decide) ?_
                          refine lv_icmp_eq (tgt := 266) hx hb dX7_where_218 (by decide) (fun c_350 => ?_) (fun c_350 => ?_)
                          · exact absurd c_350 (by decide)
                          · have c_350 : ¬ 1 = 0 := zc_ne (by decide) (by decide) c_350
                            refine lv_iload hx hb dX7_where_221 (lv_at hl 0 rfl) ?_
                            refine lv_if_le (tgt := 230) hx hb dX7_where_223 (by decide) (fun c_351 => ?_) (fun c_351 => ?_)
                            · have c_351 : (eCr n X Y i px.toInt py.toInt) ≤ 0 := zc_le (iI_toInt (by omega)) (by decide) c_351
                              refine lv_iconst (v := 0) hx hb dX7_where_230 (by decide) ?_
                              refine lv_aload_n hx hb dX7_where_231 rfl (lv_at hl 4 rfl) ?_
                              refine va_get (D := (dC, dI)) (ci := 6) (v := .ref ry) (C := RX7) (T := TX7) (N := 4) hx hb hts inX7 hown hK hP 0 rfl rfl 1 (by decide) (hts _ mw_168) (fun _ h9 => h9) rfl dX7_where_232 ?_
                              refine lv_iload hx hb dX7_where_235 (lv_at hl 1 rfl) ?_
                              refine z_iald hx hb hK hP 2 0 rfl rfl (e := nxt n i) rfl (by omega) (by omega) dX7_where_237 ?_
                              refine lv_aload_n hx hb dX7_where_238 rfl (lv_at hl 4 rfl) ?_
                              refine va_get (D := (dC, dI)) (ci := 6) (v := .ref ry) (C := RX7) (T := TX7) (N := 4) hx hb hts inX7 hown hK hP 0 rfl rfl 1 (by decide) (hts _ mw_168) (fun _ h9 => h9) rfl dX7_where_239 ?_
                              refine lv_iload hx hb dX7_where_242 (lv_at hl 2 rfl) ?_
                              refine z_iald hx hb hK hP 2 0 rfl rfl (e := i) rfl (by omega) (by omega) dX7_where_244 ?_
                              refine lv_icmp_le (tgt := 252) hx hb dX7_where_245 (by decide) (fun c_352 => ?_) (fun c_352 => ?_)
                              · have c_352 : (Y (nxt n i)).toInt ≤ (Y i).toInt := zc_le rfl rfl c_352
                                refine lv_iconst (v := 0) hx hb dX7_where_252 (by decide) ?_
                                refine lv_icmp_ne (tgt := 266) hx hb dX7_where_253 (by decide) (fun c_353 => ?_) (fun c_353 => ?_)
                                · exact absurd (by decide) c_353
                                · have c_353 : 0 = 0 := zc_eq (by decide) (by decide) c_353
                                  refine lv_iload_n hx hb dX7_where_256 rfl (lv_at hl 3 rfl) ?_
                                  refine lv_if_ne (tgt := 264) hx hb dX7_where_257 (by decide) (fun c_354 => ?_) (fun c_354 => ?_)
                                  · have c_354 : par2 (eTg n X Y px.toInt py.toInt) i := zp_1 c_354
                                    refine lv_iconst (v := 0) hx hb dX7_where_264 (by decide) ?_
                                    refine lv_istore_n (lv' := [(3, .int 0), (6, .int (iI (eCr n X Y i px.toInt py.toInt))), (5, .int (nI (nxt n i))), (4, .int (nI i)), (0, .ref r), (1, .int px), (2, .int py)]) hx hb dX7_where_265 rfl hl (by decide) rfl (fun ls hl => ?_)
                                    refine lv_iinc (v := nI (i + 1)) (lv' := [(4, .int (nI (i + 1))), (3, .int 0), (6, .int (iI (eCr n X Y i px.toInt py.toInt))), (5, .int (nI (nxt n i))), (0, .ref r), (1, .int px), (2, .int py)]) hx hb dX7_where_266 hl (k := 3) rfl (nI_add i 1) (by decide) rfl (fun ls hl => ?_)
                                    refine lv_goto (tgt := 5) hx hb dX7_where_269 (by decide) ?_
                                    have hl9 := lv_sub hl [0, 1, 4, 5, 6] rfl
                                    have e9_3 : pI (par2 (eTg n X Y px.toInt py.toInt) (i + 1)) = (0 : Int32) := by first | exact zp_iff (par2_n (sk_tg (by omega)).1) | exact zp_iff (par2_n (by unfold eTg; omega)) | exact zp_t ((par2_y (by unfold eTg; omega)).mpr (by assumption)) | exact zp_f (fun q => (par2_y (by unfold eTg; omega)).mp q (by assumption))
                                    have hl9 : lv_has ls 7 [(4, .int (nI (i + 1))), (3, .int (pI (par2 (eTg n X Y px.toInt py.toInt) (i + 1)))), (0, .ref r), (1, .int px), (2, .int py)] := by rw [e9_3]; exact hl9
                                    exact ih_5 (i + 1) H locs ls (by omega) (by omega) (by intro k hk; rcases Nat.lt_or_ge k i with h | h; exact hno k h; have e9 : k = i := (by omega); subst e9; first | exact (sk_tg (by omega)).2 | (unfold eOn onS; unfold eCr at *; omega)) hP hD hS hl9
                                  · have c_354 : ¬ (par2 (eTg n X Y px.toInt py.toInt) i) := zp_0 c_354
                                    refine lv_iconst (v := 1) hx hb dX7_where_260 (by decide) ?_
                                    refine lv_goto (tgt := 265) hx hb dX7_where_261 (by decide) ?_
                                    refine lv_istore_n (lv' := [(3, .int 1), (6, .int (iI (eCr n X Y i px.toInt py.toInt))), (5, .int (nI (nxt n i))), (4, .int (nI i)), (0, .ref r), (1, .int px), (2, .int py)]) hx hb dX7_where_265 rfl hl (by decide) rfl (fun ls hl => ?_)
                                    refine lv_iinc (v := nI (i + 1)) (lv' := [(4, .int (nI (i + 1))), (3, .int 1), (6, .int (iI (eCr n X Y i px.toInt py.toInt))), (5, .int (nI (nxt n i))), (0, .ref r), (1, .int px), (2, .int py)]) hx hb dX7_where_266 hl (k := 3) rfl (nI_add i 1) (by decide) rfl (fun ls hl => ?_)
                                    refine lv_goto (tgt := 5) hx hb dX7_where_269 (by decide) ?_
                                    have hl9 := lv_sub hl [0, 1, 4, 5, 6] rfl
                                    have e9_3 : pI (par2 (eTg n X Y px.toInt py.toInt) (i + 1)) = (1 : Int32) := by first | exact zp_iff (par2_n (sk_tg (by omega)).1) | exact zp_iff (par2_n (by unfold eTg; omega)) | exact zp_t ((par2_y (by unfold eTg; omega)).mpr (by assumption)) | exact zp_f (fun q => (par2_y (by unfold eTg; omega)).mp q (by assumption))
                                    have hl9 : lv_has ls 7 [(4, .int (nI (i + 1))), (3, .int (pI (par2 (eTg n X Y px.toInt py.toInt) (i + 1)))), (0, .ref r), (1, .int px), (2, .int py)] := by rw [e9_3]; exact hl9
                                    exact ih_5 (i + 1) H locs ls (by omega) (by omega) (by intro k hk; rcases Nat.lt_or_ge k i with h | h; exact hno k h; have e9 : k = i := (by omega); subst e9; first | exact (sk_tg (by omega)).2 | (unfold eOn onS; unfold eCr at *; omega)) hP hD hS hl9
                              · have c_352 : (Y i).toInt < (Y (nxt n i)).toInt := zc_nle rfl rfl c_352
                                refine lv_iconst (v := 1) hx hb dX7_where_248 (by decide) ?_
                                refine lv_goto (tgt := 253) hx hb dX7_where_249 (by decide) ?_
                                refine lv_icmp_ne (tgt := 266) hx hb dX7_where_253 (by decide) (fun c_355 => ?_) (fun c_355 => ?_)
                                · have c_355 : ¬ 0 = 1 := zc_ne (by decide) (by decide) c_355
                                  refine lv_iinc (v := nI (i + 1)) (lv' := [(4, .int (nI (i + 1))), (6, .int (iI (eCr n X Y i px.toInt py.toInt))), (5, .int (nI (nxt n i))), (3, .int (pI (par2 (eTg n X Y px.toInt py.toInt) i))), (0, .ref r), (1, .int px), (2, .int py)]) hx hb dX7_where_266 hl (k := 2) rfl (nI_add i 1) (by decide) rfl (fun ls hl => ?_)
                                  refine lv_goto (tgt := 5) hx hb dX7_where_269 (by decide) ?_
                                  have hl9 := lv_sub hl [0, 3, 4, 5, 6] rfl
                                  have e9_3 : pI (par2 (eTg n X Y px.toInt py.toInt) (i + 1)) = (pI (par2 (eTg n X Y px.toInt py.toInt) i) : Int32) := by first | exact zp_iff (par2_n (sk_tg (by omega)).1) | exact zp_iff (par2_n (by unfold eTg; omega)) | exact zp_t ((par2_y (by unfold eTg; omega)).mpr (by assumption)) | exact zp_f (fun q => (par2_y (by unfold eTg; omega)).mp q (by assumption))
                                  have hl9 : lv_has ls 7 [(4, .int (nI (i + 1))), (3, .int (pI (par2 (eTg n X Y px.toInt py.toInt) (i + 1)))), (0, .ref r), (1, .int px), (2, .int py)] := by rw [e9_3]; exact hl9
                                  exact ih_5 (i + 1) H locs ls (by omega) (by omega) (by intro k hk; rcases Nat.lt_or_ge k i with h | h; exact hno k h; have e9 : k = i := (by omega); subst e9; first | exact (sk_tg (by omega)).2 | (unfold eOn onS; unfold eCr at *; omega)) hP hD hS hl9
                                · exact absurd c_355 (by decide)
                            · have c_351 : 0 < (eCr n X Y i px.toInt py.toInt) := zc_nle (iI_toInt (by omega)) (by decide) c_351
                              refine lv_iconst (v := 1) hx hb dX7_where_226 (by decide) ?_
                              refine lv_goto (tgt := 231) hx hb dX7_where_227 (by decide) ?_
                              refine lv_aload_n hx hb dX7_where_231 rfl (lv_at hl 4 rfl) ?_
                              refine va_get (D := (dC, dI)) (ci := 6) (v := .ref ry) (C := RX7) (T := TX7) (N := 4) hx hb hts inX7 hown hK hP 0 rfl rfl 1 (by decide) (hts _ mw_168) (fun _ h9 => h9) rfl dX7_where_232 ?_
                              refine lv_iload hx hb dX7_where_235 (lv_at hl 1 rfl) ?_
                              refine z_iald hx hb hK hP 2 0 rfl rfl (e := nxt n i) rfl (by omega) (by omega) dX7_where_237 ?_
                              refine lv_aload_n hx hb dX7_where_238 rfl (lv_at hl 4 rfl) ?_
                              refine va_get (D := (dC, dI)) (ci := 6) (v := .ref ry) (C := RX7) (T := TX7) (N := 4) hx hb hts inX7 hown hK hP 0 rfl rfl 1 (by decide) (hts _ mw_168) (fun _ h9 => h9) rfl dX7_where_239 ?_
                              refine lv_iload hx hb dX7_where_242 (lv_at hl 2 rfl) ?_
                              refine z_iald hx hb hK hP 2 0 rfl rfl (e := i) rfl (by omega) (by omega) dX7_where_244 ?_
                              refine lv_icmp_le (tgt := 252) hx hb dX7_where_245 (by decide) (fun c_356 => ?_) (fun c_356 => ?_)
                              · have c_356 : (Y (nxt n i)).toInt ≤ (Y i).toInt := zc_le rfl rfl c_356
                                refine lv_iconst (v := 0) hx hb dX7_where_252 (by decide) ?_
                                refine lv_icmp_ne (tgt := 266) hx hb dX7_where_253 (by decide) (fun c_357 => ?_) (fun c_357 => ?_)
                                · have c_357 : ¬ 1 = 0 := zc_ne (by decide) (by decide) c_357
                                  refine lv_iinc (v := nI (i + 1)) (lv' := [(4, .int (nI (i + 1))), (6, .int (iI (eCr n X Y i px.toInt py.toInt))), (5, .int (nI (nxt n i))), (3, .int (pI (par2 (eTg n X Y px.toInt py.toInt) i))), (0, .ref r), (1, .int px), (2, .int py)]) hx hb dX7_where_266 hl (k := 2) rfl (nI_add i 1) (by decide) rfl (fun ls hl => ?_)
                                  refine lv_goto (tgt := 5) hx hb dX7_where_269 (by decide) ?_
                                  have hl9 := lv_sub hl [0, 3, 4, 5, 6] rfl
                                  have e9_3 : pI (par2 (eTg n X Y px.toInt py.toInt) (i + 1)) = (pI (par2 (eTg n X Y px.toInt py.toInt) i) : Int32) := by first | exact zp_iff (par2_n (sk_tg (by omega)).1) | exact zp_iff (par2_n (by unfold eTg; omega)) | exact zp_t ((par2_y (by unfold eTg; omega)).mpr (by assumption)) | exact zp_f (fun q => (par2_y (by unfold eTg; omega)).mp q (by assumption))
                                  have hl9 : lv_has ls 7 [(4, .int (nI (i + 1))), (3, .int (pI (par2 (eTg n X Y px.toInt py.toInt) (i + 1)))), (0, .ref r), (1, .int px), (2, .int py)] := by rw [e9_3]; exact hl9
                                  exact ih_5 (i + 1) H locs ls (by omega) (by omega) (by intro k hk; rcases Nat.lt_or_ge k i with h | h; exact hno k h; have e9 : k = i := (by omega); subst e9; first | exact (sk_tg (by omega)).2 | (unfold eOn onS; unfold eCr at *; omega)) hP hD hS hl9
                                · exact absurd c_357 (by decide)
                              · have c_356 : (Y i).toInt < (Y (nxt n i)).toInt := zc_nle rfl rfl c_356
                                refine lv_iconst (v := 1) hx hb dX7_where_248 (by decide) ?_
                                refine lv_goto (tgt := 253) hx hb dX7_where_249 (by decide) ?_
                                refine lv_icmp_ne (tgt := 266) hx hb dX7_where_253 (by decide) (fun c_358 => ?_) (fun c_358 => ?_)
                                · exact absurd (by decide) c_358
                                · have c_358 : 1 = 1 := zc_eq (by decide) (by decide) c_358
                                  refine lv_iload_n hx hb dX7_where_256 rfl (lv_at hl 3 rfl) ?_
                                  refine lv_if_ne (tgt := 264) hx hb dX7_where_257 (by decide) (fun c_359 => ?_) (fun c_359 => ?_)
                                  · have c_359 : par2 (eTg n X Y px.toInt py.toInt) i := zp_1 c_359
                                    refine lv_iconst (v := 0) hx hb dX7_where_264 (by decide) ?_
                                    refine lv_istore_n (lv' := [(3, .int 0), (6, .int (iI (eCr n X Y i px.toInt py.toInt))), (5, .int (nI (nxt n i))), (4, .int (nI i)), (0, .ref r), (1, .int px), (2, .int py)]) hx hb dX7_where_265 rfl hl (by decide) rfl (fun ls hl => ?_)
                                    refine lv_iinc (v := nI (i + 1)) (lv' := [(4, .int (nI (i + 1))), (3, .int 0), (6, .int (iI (eCr n X Y i px.toInt py.toInt))), (5, .int (nI (nxt n i))), (0, .ref r), (1, .int px), (2, .int py)]) hx hb dX7_where_266 hl (k := 3) rfl (nI_add i 1) (by decide) rfl (fun ls hl => ?_)
                                    refine lv_goto (tgt := 5) hx hb dX7_where_269 (by decide) ?_
                                    have hl9 := lv_sub hl [0, 1, 4, 5, 6] rfl
                                    have e9_3 : pI (par2 (eTg n X Y px.toInt py.toInt) (i + 1)) = (0 : Int32) := by first | exact zp_iff (par2_n (sk_tg (by omega)).1) | exact zp_iff (par2_n (by unfold eTg; omega)) | exact zp_t ((par2_y (by unfold eTg; omega)).mpr (by assumption)) | exact zp_f (fun q => (par2_y (by unfold eTg; omega)).mp q (by assumption))
                                    have hl9 : lv_has ls 7 [(4, .int (nI (i + 1))), (3, .int (pI (par2 (eTg n X Y px.toInt py.toInt) (i + 1)))), (0, .ref r), (1, .int px), (2, .int py)] := by rw [e9_3]; exact hl9
                                    exact ih_5 (i + 1) H locs ls (by omega) (by omega) (by intro k hk; rcases Nat.lt_or_ge k i with h | h; exact hno k h; have e9 : k = i := (by omega); subst e9; first | exact (sk_tg (by omega)).2 | (unfold eOn onS; unfold eCr at *; omega)) hP hD hS hl9
                                  · have c_359 : ¬ (par2 (eTg n X Y px.toInt py.toInt) i) := zp_0 c_359
                                    refine lv_iconst (v := 1) hx hb dX7_where_260 (by decide) ?_
                                    refine lv_goto (tgt := 265) hx hb dX7_where_261 (by decide) ?_
                                    refine lv_istore_n (lv' := [(3, .int 1), (6, .int (iI (eCr n X Y i px.toInt py.toInt))), (5, .int (nI (nxt n i))), (4, .int (nI i)), (0, .ref r), (1, .int px), (2, .int py)]) hx hb dX7_where_265 rfl hl (by decide) rfl (fun ls hl => ?_)
                                    refine lv_iinc (v := nI (i + 1)) (lv' := [(4, .int (nI (i + 1))), (3, .int 1), (6, .int (iI (eCr n X Y i px.toInt py.toInt))), (5, .int (nI (nxt n i))), (0, .ref r), (1, .int px), (2, .int py)]) hx hb dX7_where_266 hl (k := 3) rfl (nI_add i 1) (by decide) rfl (fun ls hl => ?_)
                                    refine lv_goto (tgt := 5) hx hb dX7_where_269 (by decide) ?_
                                    have hl9 := lv_sub hl [0, 1, 4, 5, 6] rfl
                                    have e9_3 : pI (par2 (eTg n X Y px.toInt py.toInt) (i + 1)) = (1 : Int32) := by first | exact zp_iff (par2_n (sk_tg (by omega)).1) | exact zp_iff (par2_n (by unfold eTg; omega)) | exact zp_t ((par2_y (by unfold eTg; omega)).mpr (by assumption)) | exact zp_f (fun q => (par2_y (by unfold eTg; omega)).mp q (by assumption))
                                    have hl9 : lv_has ls 7 [(4, .int (nI (i + 1))), (3, .int (pI (par2 (eTg n X Y px.toInt py.toInt) (i + 1)))), (0, .ref r), (1, .int px), (2, .int py)] := by rw [e9_3]; exact hl9
                                    exact ih_5 (i + 1) H locs ls (by omega) (by omega) (by intro k hk; rcases Nat.lt_or_ge k i with h | h; exact hno k h; have e9 : k = i := (by omega); subst e9; first | exact (sk_tg (by omega)).2 | (unfold eOn onS; unfold eCr at *; omega)) hP hD hS hl9
                        · have c_349 : py.toInt < (Y (nxt n i)).toInt := zc_nle rfl rfl c_349
                          refine lv_iconst (v := 1) hx hb dX7_where_213 (by decide) ?_
                          refine lv_goto (tgt := 218) hx hb dX7_where_214 (by decide) ?_
                          refine lv_icmp_eq (tgt := 266) hx hb dX7_where_218 (by decide) (fun c_360 => ?_) (fun c_360 => ?_)
                          · have c_360 : 1 = 1 := zc_eq (by decide) (by decide) c_360
                            refine lv_iinc (v := nI (i + 1)) (lv' := [(4, .int (nI (i + 1))), (6, .int (iI (eCr n X Y i px.toInt py.toInt))), (5, .int (nI (nxt n i))), (3, .int (pI (par2 (eTg n X Y px.toInt py.toInt) i))), (0, .ref r), (1, .int px), (2, .int py)]) hx hb dX7_where_266 hl (k := 2) rfl (nI_add i 1) (by decide) rfl (fun ls hl => ?_)
                            refine lv_goto (tgt := 5) hx hb dX7_where_269 (by decide) ?_
                            have hl9 := lv_sub hl [0, 3, 4, 5, 6] rfl
                            have e9_3 : pI (par2 (eTg n X Y px.toInt py.toInt) (i + 1)) = (pI (par2 (eTg n X Y px.toInt py.toInt) i) : Int32) := by first | exact zp_iff (par2_n (sk_tg (by omega)).1) | exact zp_iff (par2_n (by unfold eTg; omega)) | exact zp_t ((par2_y (by unfold eTg; omega)).mpr (by assumption)) | exact zp_f (fun q => (par2_y (by unfold eTg; omega)).mp q (by assumption))
                            have hl9 : lv_has ls 7 [(4, .int (nI (i + 1))), (3, .int (pI (par2 (eTg n X Y px.toInt py.toInt) (i + 1)))), (0, .ref r), (1, .int px), (2, .int py)] := by rw [e9_3]; exact hl9
                            exact ih_5 (i + 1) H locs ls (by omega) (by omega) (by intro k hk; rcases Nat.lt_or_ge k i with h | h; exact hno k h; have e9 : k = i := (by omega); subst e9; first | exact (sk_tg (by omega)).2 | (unfold eOn onS; unfold eCr at *; omega)) hP hD hS hl9
                          · exact absurd (by decide) c_360
                    · have c_335 : (eCr n X Y i px.toInt py.toInt) = 0 := zc_eq (iI_toInt (by omega)) (by decide) c_335
                      refine lv_aload_n hx hb dX7_where_162 rfl (lv_at hl 4 rfl) ?_
                      refine va_get (D := (dC, dI)) (ci := 6) (v := .ref rx) (C := RX7) (T := TX7) (N := 4) hx hb hts inX7 hown hK hP 0 rfl rfl 0 (by decide) (hts _ mw_161) (fun _ h9 => h9) rfl dX7_where_163 ?_
                      refine lv_iload hx hb dX7_where_166 (lv_at hl 2 rfl) ?_
                      refine z_iald hx hb hK hP 1 0 rfl rfl (e := i) rfl (by omega) (by omega) dX7_where_168 ?_
                      refine lv_iload_n hx hb dX7_where_169 rfl (lv_at hl 5 rfl) ?_
                      refine lv_icmp_le (tgt := 184) hx hb dX7_where_170 (by decide) (fun c_361 => ?_) (fun c_361 => ?_)
                      · have c_361 : (X i).toInt ≤ px.toInt := zc_le rfl rfl c_361
                        refine lv_iconst (v := 2) hx hb dX7_where_184 (by decide) ?_
                        have hP9 := hP.sub (ws' := [(r, .inr (6, [.ref rx, .ref ry, .int (nI n), .int rg])), (rx, .inl (cI, cap, .inl X)), (ry, .inl (cI, cap, .inl Y))]) [0, 1, 2] rfl
                        have hD9 := hD.sub (ws' := [(r, .inr (6, [.ref rx, .ref ry, .int (nI n), .int rg])), (rx, .inl (cI, cap, .inl X)), (ry, .inl (cI, cap, .inl Y))]) [0, 1, 2] (by decide) rfl
                        rw [hQ9]
                        exact W.iret (v := 2) hx hb hr (fun t ht hW => ⟨⟨congrArg (fun z => Outcome.returned (some (Value.int z))) (show (2 : Int32) = whr n X Y px.toInt py.toInt from (whr_2 ⟨i, by omega, by unfold eOn onS; unfold eCr at *; omega⟩).symm), by rw [ht]; exact hP9, hD9⟩, hS.F ht⟩) hS.2.2 dX7_where_185
                      · have c_361 : px.toInt < (X i).toInt := zc_nle rfl rfl c_361
                        refine lv_aload_n hx hb dX7_where_173 rfl (lv_at hl 4 rfl) ?_
                        refine va_get (D := (dC, dI)) (ci := 6) (v := .ref rx) (C := RX7) (T := TX7) (N := 4) hx hb hts inX7 hown hK hP 0 rfl rfl 0 (by decide) (hts _ mw_161) (fun _ h9 => h9) rfl dX7_where_174 ?_
                        refine lv_iload hx hb dX7_where_177 (lv_at hl 1 rfl) ?_
                        refine z_iald hx hb hK hP 1 0 rfl rfl (e := nxt n i) rfl (by omega) (by omega) dX7_where_179 ?_
                        refine lv_iload_n hx hb dX7_where_180 rfl (lv_at hl 5 rfl) ?_
                        refine lv_icmp_gt (tgt := 186) hx hb dX7_where_181 (by decide) (fun c_362 => ?_) (fun c_362 => ?_)
                        · have c_362 : px.toInt < (X (nxt n i)).toInt := zc_lt rfl rfl c_362
                          refine lv_aload_n hx hb dX7_where_186 rfl (lv_at hl 4 rfl) ?_
                          refine va_get (D := (dC, dI)) (ci := 6) (v := .ref ry) (C := RX7) (T := TX7) (N := 4) hx hb hts inX7 hown hK hP 0 rfl rfl 1 (by decide) (hts _ mw_168) (fun _ h9 => h9) rfl dX7_where_187 ?_
                          refine lv_iload hx hb dX7_where_190 (lv_at hl 2 rfl) ?_
                          refine z_iald hx hb hK hP 2 0 rfl rfl (e := i) rfl (by omega) (by omega) dX7_where_192 ?_
                          refine lv_iload_n hx hb dX7_where_193 rfl (lv_at hl 6 rfl) ?_
                          refine lv_icmp_le (tgt := 201) hx hb dX7_where_194 (by decide) (fun c_363 => ?_) (fun c_363 => ?_)
                          · have c_363 : (Y i).toInt ≤ py.toInt := zc_le rfl rfl c_363
                            refine lv_iconst (v := 0) hx hb dX7_where_201 (by decide) ?_
                            refine lv_aload_n hx hb dX7_where_202 rfl (lv_at hl 4 rfl) ?_
                            refine va_get (D := (dC, dI)) (ci := 6) (v := .ref ry) (C := RX7) (T := TX7) (N := 4) hx hb hts inX7 hown hK hP 0 rfl rfl 1 (by decide) (hts _ mw_168) (fun _ h9 => h9) rfl dX7_where_203 ?_
                            refine lv_iload hx hb dX7_where_206 (lv_at hl 1 rfl) ?_
                            refine z_iald hx hb hK hP 2 0 rfl rfl (e := nxt n i) rfl (by omega) (by omega) dX7_where_208 ?_
                            refine lv_iload_n hx hb dX7_where_209 rfl (lv_at hl 6 rfl) ?_
                            refine lv_icmp_le (tgt := 217) hx hb dX7_where_210 (by decide) (fun c_364 => ?_) (fun c_364 => ?_)
                            · have c_364 : (Y (nxt n i)).toInt ≤ py.toInt := zc_le rfl rfl c_364
                              refine lv_iconst (v := 0) hx hb dX7_where_217 (by decide) ?_
                              refine lv_icmp_eq (tgt := 266) hx hb dX7_where_218 (by decide) (fun c_365 => ?_) (fun c_365 => ?_)
                              · have c_365 : 0 = 0 := zc_eq (by decide) (by decide) c_365
                                refine lv_iinc (v := nI (i + 1)) (lv' := [(4, .int (nI (i + 1))), (6, .int (iI (eCr n X Y i px.toInt py.toInt))), (5, .int (nI (nxt n i))), (3, .int (pI (par2 (eTg n X Y px.toInt py.toInt) i))), (0, .ref r), (1, .int px), (2, .int py)]) hx hb dX7_where_266 hl (k := 2) rfl (nI_add i 1) (by decide) rfl (fun ls hl => ?_)
                                refine lv_goto (tgt := 5) hx hb dX7_where_269 (by decide) ?_
                                have hl9 := lv_sub hl [0, 3, 4, 5, 6] rfl
                                have e9_3 : pI (par2 (eTg n X Y px.toInt py.toInt) (i + 1)) = (pI (par2 (eTg n X Y px.toInt py.toInt) i) : Int32) := by first | exact zp_iff (par2_n (sk_tg (by omega)).1) | exact zp_iff (par2_n (by unfold eTg; omega)) | exact zp_t ((par2_y (by unfold eTg; omega)).mpr (by assumption)) | exact zp_f (fun q => (par2_y (by unfold eTg; omega)).mp q (by assumption))
                                have hl9 : lv_has ls 7 [(4, .int (nI (i + 1))), (3, .int (pI (par2 (eTg n X Y px.toInt py.toInt) (i + 1)))), (0, .ref r), (1, .int px), (2, .int py)] := by rw [e9_3]; exact hl9
                                exact ih_5 (i + 1) H locs ls (by omega) (by omega) (by intro k hk; rcases Nat.lt_or_ge k i with h | h; exact hno k h; have e9 : k = i := (by omega); subst e9; first | exact (sk_tg (by omega)).2 | (unfold eOn onS; unfold eCr at *; omega)) hP hD hS hl9
                              · exact absurd (by decide) c_365
                            · have c_364 : py.toInt < (Y (nxt n i)).toInt := zc_nle rfl rfl c_364
                              refine lv_iconst (v := 1) hx hb dX7_where_213 (by decide) ?_
                              refine lv_goto (tgt := 218) hx hb dX7_where_214 (by decide) ?_
                              refine lv_icmp_eq (tgt := 266) hx hb dX7_where_218 (by decide) (fun c_366 => ?_) (fun c_366 => ?_)
                              · exact absurd c_366 (by decide)
                              · have c_366 : ¬ 0 = 1 := zc_ne (by decide) (by decide) c_366
                                refine lv_iload hx hb dX7_where_221 (lv_at hl 0 rfl) ?_
                                refine lv_if_le (tgt := 230) hx hb dX7_where_223 (by decide) (fun c_367 => ?_) (fun c_367 => ?_)
                                · have c_367 : (eCr n X Y i px.toInt py.toInt) ≤ 0 := zc_le (iI_toInt (by omega)) (by decide) c_367
                                  refine lv_iconst (v := 0) hx hb dX7_where_230 (by decide) ?_
                                  refine lv_aload_n hx hb dX7_where_231 rfl (lv_at hl 4 rfl) ?_
                                  refine va_get (D := (dC, dI)) (ci := 6) (v := .ref ry) (C := RX7) (T := TX7) (N := 4) hx hb hts inX7 hown hK hP 0 rfl rfl 1 (by decide) (hts _ mw_168) (fun _ h9 => h9) rfl dX7_where_232 ?_
                                  refine lv_iload hx hb dX7_where_235 (lv_at hl 1 rfl) ?_
                                  refine z_iald hx hb hK hP 2 0 rfl rfl (e := nxt n i) rfl (by omega) (by omega) dX7_where_237 ?_
                                  refine lv_aload_n hx hb dX7_where_238 rfl (lv_at hl 4 rfl) ?_
                                  refine va_get (D := (dC, dI)) (ci := 6) (v := .ref ry) (C := RX7) (T := TX7) (N := 4) hx hb hts inX7 hown hK hP 0 rfl rfl 1 (by decide) (hts _ mw_168) (fun _ h9 => h9) rfl dX7_where_239 ?_
                                  refine lv_iload hx hb dX7_where_242 (lv_at hl 2 rfl) ?_
                                  refine z_iald hx hb hK hP 2 0 rfl rfl (e := i) rfl (by omega) (by omega) dX7_where_244 ?_
                                  refine lv_icmp_le (tgt := 252) hx hb dX7_where_245 (by decide) (fun c_368 => ?_) (fun c_368 => ?_)
                                  · have c_368 : (Y (nxt n i)).toInt ≤ (Y i).toInt := zc_le rfl rfl c_368
                                    refine lv_iconst (v := 0) hx hb dX7_where_252 (by decide) ?_
                                    refine lv_icmp_ne (tgt := 266) hx hb dX7_where_253 (by decide) (fun c_369 => ?_) (fun c_369 => ?_)
                                    · exact absurd (by decide) c_369
                                    · have c_369 : 0 = 0 := zc_eq (by decide) (by decide) c_369
                                      refine lv_iload_n hx hb dX7_where_256 rfl (lv_at hl 3 rfl) ?_
                                      refine lv_if_ne (tgt := 264) hx hb dX7_where_257 (by decide) (fun c_370 => ?_) (fun c_370 => ?_)
                                      · have c_370 : par2 (eTg n X Y px.toInt py.toInt) i := zp_1 c_370
                                        refine lv_iconst (v := 0) hx hb dX7_where_264 (by decide) ?_
                                        refine lv_istore_n (lv' := [(3, .int 0), (6, .int (iI (eCr n X Y i px.toInt py.toInt))), (5, .int (nI (nxt n i))), (4, .int (nI i)), (0, .ref r), (1, .int px), (2, .int py)]) hx hb dX7_where_265 rfl hl (by decide) rfl (fun ls hl => ?_)
                                        refine lv_iinc (v := nI (i + 1)) (lv' := [(4, .int (nI (i + 1))), (3, .int 0), (6, .int (iI (eCr n X Y i px.toInt py.toInt))), (5, .int (nI (nxt n i))), (0, .ref r), (1, .int px), (2, .int py)]) hx hb dX7_where_266 hl (k := 3) rfl (nI_add i 1) (by decide) rfl (fun ls hl => ?_)
                                        refine lv_goto (tgt := 5) hx hb dX7_where_269 (by decide) ?_
                                        have hl9 := lv_sub hl [0, 1, 4, 5, 6] rfl
                                        have e9_3 : pI (par2 (eTg n X Y px.toInt py.toInt) (i + 1)) = (0 : Int32) := by first | exact zp_iff (par2_n (sk_tg (by omega)).1) | exact zp_iff (par2_n (by unfold eTg; omega)) | exact zp_t ((par2_y (by unfold eTg; omega)).mpr (by assumption)) | exact zp_f (fun q => (par2_y (by unfold eTg; omega)).mp q (by assumption))
                                        have hl9 : lv_has ls 7 [(4, .int (nI (i + 1))), (3, .int (pI (par2 (eTg n X Y px.toInt py.toInt) (i + 1)))), (0, .ref r), (1, .int px), (2, .int py)] := by rw [e9_3]; exact hl9
                                        exact ih_5 (i + 1) H locs ls (by omega) (by omega) (by intro k hk; rcases Nat.lt_or_ge k i with h | h; exact hno k h; have e9 : k = i := (by omega); subst e9; first | exact (sk_tg (by omega)).2 | (unfold eOn onS; unfold eCr at *; omega)) hP hD hS hl9
                                      · have c_370 : ¬ (par2 (eTg n X Y px.toInt py.toInt) i) := zp_0 c_370
                                        refine lv_iconst (v := 1) hx hb dX7_where_260 (by decide) ?_
                                        refine lv_goto (tgt := 265) hx hb dX7_where_261 (by decide) ?_
                                        refine lv_istore_n (lv' := [(3, .int 1), (6, .int (iI (eCr n X Y i px.toInt py.toInt))), (5, .int (nI (nxt n i))), (4, .int (nI i)), (0, .ref r), (1, .int px), (2, .int py)]) hx hb dX7_where_265 rfl hl (by decide) rfl (fun ls hl => ?_)
                                        refine lv_iinc (v := nI (i + 1)) (lv' := [(4, .int (nI (i + 1))), (3, .int 1), (6, .int (iI (eCr n X Y i px.toInt py.toInt))), (5, .int (nI (nxt n i))), (0, .ref r), (1, .int px), (2, .int py)]) hx hb dX7_where_266 hl (k := 3) rfl (nI_add i 1) (by decide) rfl (fun ls hl => ?_)
                                        refine lv_goto (tgt := 5) hx hb dX7_where_269 (by decide) ?_
                                        have hl9 := lv_sub hl [0, 1, 4, 5, 6] rfl
                                        have e9_3 : pI (par2 (eTg n X Y px.toInt py.toInt) (i + 1)) = (1 : Int32) := by first | exact zp_iff (par2_n (sk_tg (by omega)).1) | exact zp_iff (par2_n (by unfold eTg; omega)) | exact zp_t ((par2_y (by unfold eTg; omega)).mpr (by assumption)) | exact zp_f (fun q => (par2_y (by unfold eTg; omega)).mp q (by assumption))
                                        have hl9 : lv_has ls 7 [(4, .int (nI (i + 1))), (3, .int (pI (par2 (eTg n X Y px.toInt py.toInt) (i + 1)))), (0, .ref r), (1, .int px), (2, .int py)] := by rw [e9_3]; exact hl9
                                        exact ih_5 (i + 1) H locs ls (by omega) (by omega) (by intro k hk; rcases Nat.lt_or_ge k i with h | h; exact hno k h; have e9 : k = i := (by omega); subst e9; first | exact (sk_tg (by omega)).2 | (unfold eOn onS; unfold eCr at *; omega)) hP hD hS hl9
                                  · have c_368 : (Y i).toInt < (Y (nxt n i)).toInt := zc_nle rfl rfl c_368
                                    refine lv_iconst (v := 1) hx hb dX7_where_248 (by decide) ?_
                                    refine lv_goto (tgt := 253) hx hb dX7_where_249 (by decide) ?_
                                    refine lv_icmp_ne (tgt := 266) hx hb dX7_where_253 (by decide) (fun c_371 => ?_) (fun c_371 => ?_)
                                    · have c_371 : ¬ 0 = 1 := zc_ne (by decide) (by decide) c_371
                                      refine lv_iinc (v := nI (i + 1)) (lv' := [(4, .int (nI (i + 1))), (6, .int (iI (eCr n X Y i px.toInt py.toInt))), (5, .int (nI (nxt n i))), (3, .int (pI (par2 (eTg n X Y px.toInt py.toInt) i))), (0, .ref r), (1, .int px), (2, .int py)]) hx hb dX7_where_266 hl (k := 2) rfl (nI_add i 1) (by decide) rfl (fun ls hl => ?_)
                                      refine lv_goto (tgt := 5) hx hb dX7_where_269 (by decide) ?_
                                      have hl9 := lv_sub hl [0, 3, 4, 5, 6] rfl
                                      have e9_3 : pI (par2 (eTg n X Y px.toInt py.toInt) (i + 1)) = (pI (par2 (eTg n X Y px.toInt py.toInt) i) : Int32) := by first | exact zp_iff (par2_n (sk_tg (by omega)).1) | exact zp_iff (par2_n (by unfold eTg; omega)) | exact zp_t ((par2_y (by unfold eTg; omega)).mpr (by assumption)) | exact zp_f (fun q => (par2_y (by unfold eTg; omega)).mp q (by assumption))
                                      have hl9 : lv_has ls 7 [(4, .int (nI (i + 1))), (3, .int (pI (par2 (eTg n X Y px.toInt py.toInt) (i + 1)))), (0, .ref r), (1, .int px), (2, .int py)] := by rw [e9_3]; exact hl9
                                      exact ih_5 (i + 1) H locs ls (by omega) (by omega) (by intro k hk; rcases Nat.lt_or_ge k i with h | h; exact hno k h; have e9 : k = i := (by omega); subst e9; first | exact (sk_tg (by omega)).2 | (unfold eOn onS; unfold eCr at *; omega)) hP hD hS hl9
                                    · exact absurd c_371 (by decide)
                                · have c_367 : 0 < (eCr n X Y i px.toInt py.toInt) := zc_nle (iI_toInt (by omega)) (by decide) c_367
                                  refine lv_iconst (v := 1) hx hb dX7_where_226 (by decide) ?_
                                  refine lv_goto (tgt := 231) hx hb dX7_where_227 (by decide) ?_
                                  refine lv_aload_n hx hb dX7_where_231 rfl (lv_at hl 4 rfl) ?_
                                  refine va_get (D := (dC, dI)) (ci := 6) (v := .ref ry) (C := RX7) (T := TX7) (N := 4) hx hb hts inX7 hown hK hP 0 rfl rfl 1 (by decide) (hts _ mw_168) (fun _ h9 => h9) rfl dX7_where_232 ?_
                                  refine lv_iload hx hb dX7_where_235 (lv_at hl 1 rfl) ?_
                                  refine z_iald hx hb hK hP 2 0 rfl rfl (e := nxt n i) rfl (by omega) (by omega) dX7_where_237 ?_
                                  refine lv_aload_n hx hb dX7_where_238 rfl (lv_at hl 4 rfl) ?_
                                  refine va_get (D := (dC, dI)) (ci := 6) (v := .ref ry) (C := RX7) (T := TX7) (N := 4) hx hb hts inX7 hown hK hP 0 rfl rfl 1 (by decide) (hts _ mw_168) (fun _ h9 => h9) rfl dX7_where_239 ?_
                                  refine lv_iload hx hb dX7_where_242 (lv_at hl 2 rfl) ?_
                                  refine z_iald hx hb hK hP 2 0 rfl rfl (e := i) rfl (by omega) (by omega) dX7_where_244 ?_
                                  refine lv_icmp_le (tgt := 252) hx hb dX7_where_245 (by decide) (fun c_372 => ?_) (fun c_372 => ?_)
                                  · have c_372 : (Y (nxt n i)).toInt ≤ (Y i).toInt := zc_le rfl rfl c_372
                                    refine lv_iconst (v := 0) hx hb dX7_where_252 (by decide) ?_
                                    refine lv_icmp_ne (tgt := 266) hx hb dX7_where_253 (by decide) (fun c_373 => ?_) (fun c_373 => ?_)
                                    · have c_373 : ¬ 1 = 0 := zc_ne (by decide) (by decide) c_373
                                      refine lv_iinc (v := nI (i + 1)) (lv' := [(4, .int (nI (i + 1))), (6, .int (iI (eCr n X Y i px.toInt py.toInt))), (5, .int (nI (nxt n i))), (3, .int (pI (par2 (eTg n X Y px.toInt py.toInt) i))), (0, .ref r), (1, .int px), (2, .int py)]) hx hb dX7_where_266 hl (k := 2) rfl (nI_add i 1) (by decide) rfl (fun ls hl => ?_)
                                      refine lv_goto (tgt := 5) hx hb dX7_where_269 (by decide) ?_
                                      have hl9 := lv_sub hl [0, 3, 4, 5, 6] rfl
                                      have e9_3 : pI (par2 (eTg n X Y px.toInt py.toInt) (i + 1)) = (pI (par2 (eTg n X Y px.toInt py.toInt) i) : Int32) := by first | exact zp_iff (par2_n (sk_tg (by omega)).1) | exact zp_iff (par2_n (by unfold eTg; omega)) | exact zp_t ((par2_y (by unfold eTg; omega)).mpr (by assumption)) | exact zp_f (fun q => (par2_y (by unfold eTg; omega)).mp q (by assumption))
                                      have hl9 : lv_has ls 7 [(4, .int (nI (i + 1))), (3, .int (pI (par2 (eTg n X Y px.toInt py.toInt) (i + 1)))), (0, .ref r), (1, .int px), (2, .int py)] := by rw [e9_3]; exact hl9
                                      exact ih_5 (i + 1) H locs ls (by omega) (by omega) (by intro k hk; rcases Nat.lt_or_ge k i with h | h; exact hno k h; have e9 : k = i := (by omega); subst e9; first | exact (sk_tg (by omega)).2 | (unfold eOn onS; unfold eCr at *; omega)) hP hD hS hl9
                                    · exact absurd c_373 (by decide)
                                  · have c_372 : (Y i).toInt < (Y (nxt n i)).toInt := zc_nle rfl rfl c_372
                                    refine lv_iconst (v := 1) hx hb dX7_where_248 (by decide) ?_
                                    refine lv_goto (tgt := 253) hx hb dX7_where_249 (by decide) ?_
                                    refine lv_icmp_ne (tgt := 266) hx hb dX7_where_253 (by decide) (fun c_374 => ?_) (fun c_374 => ?_)
                                    · exact absurd (by decide) c_374
                                    · have c_374 : 1 = 1 := zc_eq (by decide) (by decide) c_374
                                      refine lv_iload_n hx hb dX7_where_256 rfl (lv_at hl 3 rfl) ?_
                                      refine lv_if_ne (tgt := 264) hx hb dX7_where_257 (by decide) (fun c_375 => ?_) (fun c_375 => ?_)
                                      · have c_375 : par2 (eTg n X Y px.toInt py.toInt) i := zp_1 c_375
                                        refine lv_iconst (v := 0) hx hb dX7_where_264 (by decide) ?_
                                        refine lv_istore_n (lv' := [(3, .int 0), (6, .int (iI (eCr n X Y i px.toInt py.toInt))), (5, .int (nI (nxt n i))), (4, .int (nI i)), (0, .ref r), (1, .int px), (2, .int py)]) hx hb dX7_where_265 rfl hl (by decide) rfl (fun ls hl => ?_)
                                        refine lv_iinc (v := nI (i + 1)) (lv' := [(4, .int (nI (i + 1))), (3, .int 0), (6, .int (iI (eCr n X Y i px.toInt py.toInt))), (5, .int (nI (nxt n i))), (0, .ref r), (1, .int px), (2, .int py)]) hx hb dX7_where_266 hl (k := 3) rfl (nI_add i 1) (by decide) rfl (fun ls hl => ?_)
                                        refine lv_goto (tgt := 5) hx hb dX7_where_269 (by decide) ?_
                                        have hl9 := lv_sub hl [0, 1, 4, 5, 6] rfl
                                        have e9_3 : pI (par2 (eTg n X Y px.toInt py.toInt) (i + 1)) = (0 : Int32) := by first | exact zp_iff (par2_n (sk_tg (by omega)).1) | exact zp_iff (par2_n (by unfold eTg; omega)) | exact zp_t ((par2_y (by unfold eTg; omega)).mpr (by assumption)) | exact zp_f (fun q => (par2_y (by unfold eTg; omega)).mp q (by assumption))
                                        have hl9 : lv_has ls 7 [(4, .int (nI (i + 1))), (3, .int (pI (par2 (eTg n X Y px.toInt py.toInt) (i + 1)))), (0, .ref r), (1, .int px), (2, .int py)] := by rw [e9_3]; exact hl9
                                        exact ih_5 (i + 1) H locs ls (by omega) (by omega) (by intro k hk; rcases Nat.lt_or_ge k i with h | h; exact hno k h; have e9 : k = i := (by omega); subst e9; first | exact (sk_tg (by omega)).2 | (unfold eOn onS; unfold eCr at *; omega)) hP hD hS hl9
                                      · have c_375 : ¬ (par2 (eTg n X Y px.toInt py.toInt) i) := zp_0 c_375
                                        refine lv_iconst (v := 1) hx hb dX7_where_260 (by decide) ?_
                                        refine lv_goto (tgt := 265) hx hb dX7_where_261 (by decide) ?_
                                        refine lv_istore_n (lv' := [(3, .int 1), (6, .int (iI (eCr n X Y i px.toInt py.toInt))), (5, .int (nI (nxt n i))), (4, .int (nI i)), (0, .ref r), (1, .int px), (2, .int py)]) hx hb dX7_where_265 rfl hl (by decide) rfl (fun ls hl => ?_)
                                        refine lv_iinc (v := nI (i + 1)) (lv' := [(4, .int (nI (i + 1))), (3, .int 1), (6, .int (iI (eCr n X Y i px.toInt py.toInt))), (5, .int (nI (nxt n i))), (0, .ref r), (1, .int px), (2, .int py)]) hx hb dX7_where_266 hl (k := 3) rfl (nI_add i 1) (by decide) rfl (fun ls hl => ?_)
                                        refine lv_goto (tgt := 5) hx hb dX7_where_269 (by decide) ?_
                                        have hl9 := lv_sub hl [0, 1, 4, 5, 6] rfl
                                        have e9_3 : pI (par2 (eTg n X Y px.toInt py.toInt) (i + 1)) = (1 : Int32) := by first | exact zp_iff (par2_n (sk_tg (by omega)).1) | exact zp_iff (par2_n (by unfold eTg; omega)) | exact zp_t ((par2_y (by unfold eTg; omega)).mpr (by assumption)) | exact zp_f (fun q => (par2_y (by unfold eTg; omega)).mp q (by assumption))
                                        have hl9 : lv_has ls 7 [(4, .int (nI (i + 1))), (3, .int (pI (par2 (eTg n X Y px.toInt py.toInt) (i + 1)))), (0, .ref r), (1, .int px), (2, .int py)] := by rw [e9_3]; exact hl9
                                        exact ih_5 (i + 1) H locs ls (by omega) (by omega) (by intro k hk; rcases Nat.lt_or_ge k i with h | h; exact hno k h; have e9 : k = i := (by omega); subst e9; first | exact (sk_tg (by omega)).2 | (unfold eOn onS; unfold eCr at *; omega)) hP hD hS hl9
                          · have c_363 : py.toInt < (Y i).toInt := zc_nle rfl rfl c_363
                            refine lv_iconst (v := 1) hx hb dX7_where_197 (by decide) ?_
                            refine lv_goto (tgt := 202) hx hb dX7_where_198 (by decide) ?_
                            refine lv_aload_n hx hb dX7_where_202 rfl (lv_at hl 4 rfl) ?_
                            refine va_get (D := (dC, dI)) (ci := 6) (v := .ref ry) (C := RX7) (T := TX7) (N := 4) hx hb hts inX7 hown hK hP 0 rfl rfl 1 (by decide) (hts _ mw_168) (fun _ h9 => h9) rfl dX7_where_203 ?_
                            refine lv_iload hx hb dX7_where_206 (lv_at hl 1 rfl) ?_
                            refine z_iald hx hb hK hP 2 0 rfl rfl (e := nxt n i) rfl (by omega) (by omega) dX7_where_208 ?_
                            refine lv_iload_n hx hb dX7_where_209 rfl (lv_at hl 6 rfl) ?_
                            refine lv_icmp_le (tgt := 217) hx hb dX7_where_210 (by decide) (fun c_376 => ?_) (fun c_376 => ?_)
                            · have c_376 : (Y (nxt n i)).toInt ≤ py.toInt := zc_le rfl rfl c_376
                              refine lv_iconst (v := 0) hx hb dX7_where_217 (by decide) ?_
                              refine lv_icmp_eq (tgt := 266) hx hb dX7_where_218 (by decide) (fun c_377 => ?_) (fun c_377 => ?_)
                              · exact absurd c_377 (by decide)
                              · have c_377 : ¬ 1 = 0 := zc_ne (by decide) (by decide) c_377
                                refine lv_iload hx hb dX7_where_221 (lv_at hl 0 rfl) ?_
                                refine lv_if_le (tgt := 230) hx hb dX7_where_223 (by decide) (fun c_378 => ?_) (fun c_378 => ?_)
                                · have c_378 : (eCr n X Y i px.toInt py.toInt) ≤ 0 := zc_le (iI_toInt (by omega)) (by decide) c_378
                                  refine lv_iconst (v := 0) hx hb dX7_where_230 (by decide) ?_
                                  refine lv_aload_n hx hb dX7_where_231 rfl (lv_at hl 4 rfl) ?_
                                  refine va_get (D := (dC, dI)) (ci := 6) (v := .ref ry) (C := RX7) (T := TX7) (N := 4) hx hb hts inX7 hown hK hP 0 rfl rfl 1 (by decide) (hts _ mw_168) (fun _ h9 => h9) rfl dX7_where_232 ?_
                                  refine lv_iload hx hb dX7_where_235 (lv_at hl 1 rfl) ?_
                                  refine z_iald hx hb hK hP 2 0 rfl rfl (e := nxt n i) rfl (by omega) (by omega) dX7_where_237 ?_
                                  refine lv_aload_n hx hb dX7_where_238 rfl (lv_at hl 4 rfl) ?_
                                  refine va_get (D := (dC, dI)) (ci := 6) (v := .ref ry) (C := RX7) (T := TX7) (N := 4) hx hb hts inX7 hown hK hP 0 rfl rfl 1 (by decide) (hts _ mw_168) (fun _ h9 => h9) rfl dX7_where_239 ?_
                                  refine lv_iload hx hb dX7_where_242 (lv_at hl 2 rfl) ?_
                                  refine z_iald hx hb hK hP 2 0 rfl rfl (e := i) rfl (by omega) (by omega) dX7_where_244 ?_
                                  refine lv_icmp_le (tgt := 252) hx hb dX7_where_245 (by decide) (fun c_379 => ?_) (fun c_379 => ?_)
                                  · have c_379 : (Y (nxt n i)).toInt ≤ (Y i).toInt := zc_le rfl rfl c_379
                                    refine lv_iconst (v := 0) hx hb dX7_where_252 (by decide) ?_
                                    refine lv_icmp_ne (tgt := 266) hx hb dX7_where_253 (by decide) (fun c_380 => ?_) (fun c_380 => ?_)
                                    · exact absurd (by decide) c_380
                                    · have c_380 : 0 = 0 := zc_eq (by decide) (by decide) c_380
                                      refine lv_iload_n hx hb dX7_where_256 rfl (lv_at hl 3 rfl) ?_
                                      refine lv_if_ne (tgt := 264) hx hb dX7_where_257 (by decide) (fun c_381 => ?_) (fun c_381 => ?_)
                                      · have c_381 : par2 (eTg n X Y px.toInt py.toInt) i := zp_1 c_381
                                        refine lv_iconst (v := 0) hx hb dX7_where_264 (by decide) ?_
                                        refine lv_istore_n (lv' := [(3, .int 0), (6, .int (iI (eCr n X Y i px.toInt py.toInt))), (5, .int (nI (nxt n i))), (4, .int (nI i)), (0, .ref r), (1, .int px), (2, .int py)]) hx hb dX7_where_265 rfl hl (by decide) rfl (fun ls hl => ?_)
                                        refine lv_iinc (v := nI (i + 1)) (lv' := [(4, .int (nI (i + 1))), (3, .int 0), (6, .int (iI (eCr n X Y i px.toInt py.toInt))), (5, .int (nI (nxt n i))), (0, .ref r), (1, .int px), (2, .int py)]) hx hb dX7_where_266 hl (k := 3) rfl (nI_add i 1) (by decide) rfl (fun ls hl => ?_)
                                        refine lv_goto (tgt := 5) hx hb dX7_where_269 (by decide) ?_
                                        have hl9 := lv_sub hl [0, 1, 4, 5, 6] rfl
                                        have e9_3 : pI (par2 (eTg n X Y px.toInt py.toInt) (i + 1)) = (0 : Int32) := by first | exact zp_iff (par2_n (sk_tg (by omega)).1) | exact zp_iff (par2_n (by unfold eTg; omega)) | exact zp_t ((par2_y (by unfold eTg; omega)).mpr (by assumption)) | exact zp_f (fun q => (par2_y (by unfold eTg; omega)).mp q (by assumption))
                                        have hl9 : lv_has ls 7 [(4, .int (nI (i + 1))), (3, .int (pI (par2 (eTg n X Y px.toInt py.toInt) (i + 1)))), (0, .ref r), (1, .int px), (2, .int py)] := by rw [e9_3]; exact hl9
                                        exact ih_5 (i + 1) H locs ls (by omega) (by omega) (by intro k hk; rcases Nat.lt_or_ge k i with h | h; exact hno k h; have e9 : k = i := (by omega); subst e9; first | exact (sk_tg (by omega)).2 | (unfold eOn onS; unfold eCr at *; omega)) hP hD hS hl9
                                      · have c_381 : ¬ (par2 (eTg n X Y px.toInt py.toInt) i) := zp_0 c_381
                                        refine lv_iconst (v := 1) hx hb dX7_where_260 (by decide) ?_
                                        refine lv_goto (tgt := 265) hx hb dX7_where_261 (by decide) ?_
                                        refine lv_istore_n (lv' := [(3, .int 1), (6, .int (iI (eCr n X Y i px.toInt py.toInt))), (5, .int (nI (nxt n i))), (4, .int (nI i)), (0, .ref r), (1, .int px), (2, .int py)]) hx hb dX7_where_265 rfl hl (by decide) rfl (fun ls hl => ?_)
                                        refine lv_iinc (v := nI (i + 1)) (lv' := [(4, .int (nI (i + 1))), (3, .int 1), (6, .int (iI (eCr n X Y i px.toInt py.toInt))), (5, .int (nI (nxt n i))), (0, .ref r), (1, .int px), (2, .int py)]) hx hb dX7_where_266 hl (k := 3) rfl (nI_add i 1) (by decide) rfl (fun ls hl => ?_)
                                        refine lv_goto (tgt := 5) hx hb dX7_where_269 (by decide) ?_
                                        have hl9 := lv_sub hl [0, 1, 4, 5, 6] rfl
                                        have e9_3 : pI (par2 (eTg n X Y px.toInt py.toInt) (i + 1)) = (1 : Int32) := by first | exact zp_iff (par2_n (sk_tg (by omega)).1) | exact zp_iff (par2_n (by unfold eTg; omega)) | exact zp_t ((par2_y (by unfold eTg; omega)).mpr (by assumption)) | exact zp_f (fun q => (par2_y (by unfold eTg; omega)).mp q (by assumption))
                                        have hl9 : lv_has ls 7 [(4, .int (nI (i + 1))), (3, .int (pI (par2 (eTg n X Y px.toInt py.toInt) (i + 1)))), (0, .ref r), (1, .int px), (2, .int py)] := by rw [e9_3]; exact hl9
                                        exact ih_5 (i + 1) H locs ls (by omega) (by omega) (by intro k hk; rcases Nat.lt_or_ge k i with h | h; exact hno k h; have e9 : k = i := (by omega); subst e9; first | exact (sk_tg (by omega)).2 | (unfold eOn onS; unfold eCr at *; omega)) hP hD hS hl9
                                  · have c_379 : (Y i).toInt < (Y (nxt n i)).toInt := zc_nle rfl rfl c_379
                                    refine lv_iconst (v := 1) hx hb dX7_where_248 (by decide) ?_
                                    refine lv_goto (tgt := 253) hx hb dX7_where_249 (by decide) ?_
                                    refine lv_icmp_ne (tgt := 266) hx hb dX7_where_253 (by decide) (fun c_382 => ?_) (fun c_382 => ?_)
                                    · have c_382 : ¬ 0 = 1 := zc_ne (by decide) (by decide) c_382
                                      refine lv_iinc (v := nI (i + 1)) (lv' := [(4, .int (nI (i + 1))), (6, .int (iI (eCr n X Y i px.toInt py.toInt))), (5, .int (nI (nxt n i))), (3, .int (pI (par2 (eTg n X Y px.toInt py.toInt) i))), (0, .ref r), (1, .int px), (2, .int py)]) hx hb dX7_where_266 hl (k := 2) rfl (nI_add i 1) (by decide) rfl (fun ls hl => ?_)
                                      refine lv_goto (tgt := 5) hx hb dX7_where_269 (by decide) ?_
                                      have hl9 := lv_sub hl [0, 3, 4, 5, 6] rfl
                                      have e9_3 : pI (par2 (eTg n X Y px.toInt py.toInt) (i + 1)) = (pI (par2 (eTg n X Y px.toInt py.toInt) i) : Int32) := by first | exact zp_iff (par2_n (sk_tg (by omega)).1) | exact zp_iff (par2_n (by unfold eTg; omega)) | exact zp_t ((par2_y (by unfold eTg; omega)).mpr (by assumption)) | exact zp_f (fun q => (par2_y (by unfold eTg; omega)).mp q (by assumption))
                                      have hl9 : lv_has ls 7 [(4, .int (nI (i + 1))), (3, .int (pI (par2 (eTg n X Y px.toInt py.toInt) (i + 1)))), (0, .ref r), (1, .int px), (2, .int py)] := by rw [e9_3]; exact hl9
                                      exact ih_5 (i + 1) H locs ls (by omega) (by omega) (by intro k hk; rcases Nat.lt_or_ge k i with h | h; exact hno k h; have e9 : k = i := (by omega); subst e9; first | exact (sk_tg (by omega)).2 | (unfold eOn onS; unfold eCr at *; omega)) hP hD hS hl9
                                    · exact absurd c_382 (by decide)
                                · have c_378 : 0 < (eCr n X Y i px.toInt py.toInt) := zc_nle (iI_toInt (by omega)) (by decide) c_378
                                  refine lv_iconst (v := 1) hx hb dX7_where_226 (by decide) ?_
                                  refine lv_goto (tgt := 231) hx hb dX7_where_227 (by decide) ?_
                                  refine lv_aload_n hx hb dX7_where_231 rfl (lv_at hl 4 rfl) ?_
                                  refine va_get (D := (dC, dI)) (ci := 6) (v := .ref ry) (C := RX7) (T := TX7) (N := 4) hx hb hts inX7 hown hK hP 0 rfl rfl 1 (by decide) (hts _ mw_168) (fun _ h9 => h9) rfl dX7_where_232 ?_
                                  refine lv_iload hx hb dX7_where_235 (lv_at hl 1 rfl) ?_
                                  refine z_iald hx hb hK hP 2 0 rfl rfl (e := nxt n i) rfl (by omega) (by omega) dX7_where_237 ?_
                                  refine lv_aload_n hx hb dX7_where_238 rfl (lv_at hl 4 rfl) ?_
                                  refine va_get (D := (dC, dI)) (ci := 6) (v := .ref ry) (C := RX7) (T := TX7) (N := 4) hx hb hts inX7 hown hK hP 0 rfl rfl 1 (by decide) (hts _ mw_168) (fun _ h9 => h9) rfl dX7_where_239 ?_
                                  refine lv_iload hx hb dX7_where_242 (lv_at hl 2 rfl) ?_
                                  refine z_iald hx hb hK hP 2 0 rfl rfl (e := i) rfl (by omega) (by omega) dX7_where_244 ?_
                                  refine lv_icmp_le (tgt := 252) hx hb dX7_where_245 (by decide) (fun c_383 => ?_) (fun c_383 => ?_)
                                  · have c_383 : (Y (nxt n i)).toInt ≤ (Y i).toInt := zc_le rfl rfl c_383
                                    refine lv_iconst (v := 0) hx hb dX7_where_252 (by decide) ?_
                                    refine lv_icmp_ne (tgt := 266) hx hb dX7_where_253 (by decide) (fun c_384 => ?_) (fun c_384 => ?_)
                                    · have c_384 : ¬ 1 = 0 := zc_ne (by decide) (by decide) c_384
                                      refine lv_iinc (v := nI (i + 1)) (lv' := [(4, .int (nI (i + 1))), (6, .int (iI (eCr n X Y i px.toInt py.toInt))), (5, .int (nI (nxt n i))), (3, .int (pI (par2 (eTg n X Y px.toInt py.toInt) i))), (0, .ref r), (1, .int px), (2, .int py)]) hx hb dX7_where_266 hl (k := 2) rfl (nI_add i 1) (by decide) rfl (fun ls hl => ?_)
                                      refine lv_goto (tgt := 5) hx hb dX7_where_269 (by decide) ?_
                                      have hl9 := lv_sub hl [0, 3, 4, 5, 6] rfl
                                      have e9_3 : pI (par2 (eTg n X Y px.toInt py.toInt) (i + 1)) = (pI (par2 (eTg n X Y px.toInt py.toInt) i) : Int32) := by first | exact zp_iff (par2_n (sk_tg (by omega)).1) | exact zp_iff (par2_n (by unfold eTg; omega)) | exact zp_t ((par2_y (by unfold eTg; omega)).mpr (by assumption)) | exact zp_f (fun q => (par2_y (by unfold eTg; omega)).mp q (by assumption))
                                      have hl9 : lv_has ls 7 [(4, .int (nI (i + 1))), (3, .int (pI (par2 (eTg n X Y px.toInt py.toInt) (i + 1)))), (0, .ref r), (1, .int px), (2, .int py)] := by rw [e9_3]; exact hl9
                                      exact ih_5 (i + 1) H locs ls (by omega) (by omega) (by intro k hk; rcases Nat.lt_or_ge k i with h | h; exact hno k h; have e9 : k = i := (by omega); subst e9; first | exact (sk_tg (by omega)).2 | (unfold eOn onS; unfold eCr at *; omega)) hP hD hS hl9
                                    · exact absurd c_384 (by decide)
                                  · have c_383 : (Y i).toInt < (Y (nxt n i)).toInt := zc_nle rfl rfl c_383
                                    refine lv_iconst (v := 1) hx hb dX7_where_248 (by decide) ?_
                                    refine lv_goto (tgt := 253) hx hb dX7_where_249 (by decide) ?_
                                    refine lv_icmp_ne (tgt := 266) hx hb dX7_where_253 (by decide) (fun c_385 => ?_) (fun c_385 => ?_)
                                    · exact absurd (by decide) c_385
                                    · have c_385 : 1 = 1 := zc_eq (by decide) (by decide) c_385
                                      refine lv_iload_n hx hb dX7_where_256 rfl (lv_at hl 3 rfl) ?_
                                      refine lv_if_ne (tgt := 264) hx hb dX7_where_257 (by decide) (fun c_386 => ?_) (fun c_386 => ?_)
                                      · have c_386 : par2 (eTg n X Y px.toInt py.toInt) i := zp_1 c_386
                                        refine lv_iconst (v := 0) hx hb dX7_where_264 (by decide) ?_
                                        refine lv_istore_n (lv' := [(3, .int 0), (6, .int (iI (eCr n X Y i px.toInt py.toInt))), (5, .int (nI (nxt n i))), (4, .int (nI i)), (0, .ref r), (1, .int px), (2, .int py)]) hx hb dX7_where_265 rfl hl (by decide) rfl (fun ls hl => ?_)
                                        refine lv_iinc (v := nI (i + 1)) (lv' := [(4, .int (nI (i + 1))), (3, .int 0), (6, .int (iI (eCr n X Y i px.toInt py.toInt))), (5, .int (nI (nxt n i))), (0, .ref r), (1, .int px), (2, .int py)]) hx hb dX7_where_266 hl (k := 3) rfl (nI_add i 1) (by decide) rfl (fun ls hl => ?_)
                                        refine lv_goto (tgt := 5) hx hb dX7_where_269 (by decide) ?_
                                        have hl9 := lv_sub hl [0, 1, 4, 5, 6] rfl
                                        have e9_3 : pI (par2 (eTg n X Y px.toInt py.toInt) (i + 1)) = (0 : Int32) := by first | exact zp_iff (par2_n (sk_tg (by omega)).1) | exact zp_iff (par2_n (by unfold eTg; omega)) | exact zp_t ((par2_y (by unfold eTg; omega)).mpr (by assumption)) | exact zp_f (fun q => (par2_y (by unfold eTg; omega)).mp q (by assumption))
                                        have hl9 : lv_has ls 7 [(4, .int (nI (i + 1))), (3, .int (pI (par2 (eTg n X Y px.toInt py.toInt) (i + 1)))), (0, .ref r), (1, .int px), (2, .int py)] := by rw [e9_3]; exact hl9
                                        exact ih_5 (i + 1) H locs ls (by omega) (by omega) (by intro k hk; rcases Nat.lt_or_ge k i with h | h; exact hno k h; have e9 : k = i := (by omega); subst e9; first | exact (sk_tg (by omega)).2 | (unfold eOn onS; unfold eCr at *; omega)) hP hD hS hl9
                                      · have c_386 : ¬ (par2 (eTg n X Y px.toInt py.toInt) i) := zp_0 c_386
                                        refine lv_iconst (v := 1) hx hb dX7_where_260 (by decide) ?_
                                        refine lv_goto (tgt := 265) hx hb dX7_where_261 (by decide) ?_
                                        refine lv_istore_n (lv' := [(3, .int 1), (6, .int (iI (eCr n X Y i px.toInt py.toInt))), (5, .int (nI (nxt n i))), (4, .int (nI i)), (0, .ref r), (1, .int px), (2, .int py)]) hx hb dX7_where_265 rfl hl (by decide) rfl (fun ls hl => ?_)
                                        refine lv_iinc (v := nI (i + 1)) (lv' := [(4, .int (nI (i + 1))), (3, .int 1), (6, .int (iI (eCr n X Y i px.toInt py.toInt))), (5, .int (nI (nxt n i))), (0, .ref r), (1, .int px), (2, .int py)]) hx hb dX7_where_266 hl (k := 3) rfl (nI_add i 1) (by decide) rfl (fun ls hl => ?_)
                                        refine lv_goto (tgt := 5) hx hb dX7_where_269 (by decide) ?_
                                        have hl9 := lv_sub hl [0, 1, 4, 5, 6] rfl
                                        have e9_3 : pI (par2 (eTg n X Y px.toInt py.toInt) (i + 1)) = (1 : Int32) := by first | exact zp_iff (par2_n (sk_tg (by omega)).1) | exact zp_iff (par2_n (by unfold eTg; omega)) | exact zp_t ((par2_y (by unfold eTg; omega)).mpr (by assumption)) | exact zp_f (fun q => (par2_y (by unfold eTg; omega)).mp q (by assumption))
                                        have hl9 : lv_has ls 7 [(4, .int (nI (i + 1))), (3, .int (pI (par2 (eTg n X Y px.toInt py.toInt) (i + 1)))), (0, .ref r), (1, .int px), (2, .int py)] := by rw [e9_3]; exact hl9
                                        exact ih_5 (i + 1) H locs ls (by omega) (by omega) (by intro k hk; rcases Nat.lt_or_ge k i with h | h; exact hno k h; have e9 : k = i := (by omega); subst e9; first | exact (sk_tg (by omega)).2 | (unfold eOn onS; unfold eCr at *; omega)) hP hD hS hl9
                            · have c_376 : py.toInt < (Y (nxt n i)).toInt := zc_nle rfl rfl c_376
                              refine lv_iconst (v := 1) hx hb dX7_where_213 (by decide) ?_
                              refine lv_goto (tgt := 218) hx hb dX7_where_214 (by decide) ?_
                              refine lv_icmp_eq (tgt := 266) hx hb dX7_where_218 (by decide) (fun c_387 => ?_) (fun c_387 => ?_)
                              · have c_387 : 1 = 1 := zc_eq (by decide) (by decide) c_387
                                refine lv_iinc (v := nI (i + 1)) (lv' := [(4, .int (nI (i + 1))), (6, .int (iI (eCr n X Y i px.toInt py.toInt))), (5, .int (nI (nxt n i))), (3, .int (pI (par2 (eTg n X Y px.toInt py.toInt) i))), (0, .ref r), (1, .int px), (2, .int py)]) hx hb dX7_where_266 hl (k := 2) rfl (nI_add i 1) (by decide) rfl (fun ls hl => ?_)
                                refine lv_goto (tgt := 5) hx hb dX7_where_269 (by decide) ?_
                                have hl9 := lv_sub hl [0, 3, 4, 5, 6] rfl
                                have e9_3 : pI (par2 (eTg n X Y px.toInt py.toInt) (i + 1)) = (pI (par2 (eTg n X Y px.toInt py.toInt) i) : Int32) := by first | exact zp_iff (par2_n (sk_tg (by omega)).1) | exact zp_iff (par2_n (by unfold eTg; omega)) | exact zp_t ((par2_y (by unfold eTg; omega)).mpr (by assumption)) | exact zp_f (fun q => (par2_y (by unfold eTg; omega)).mp q (by assumption))
                                have hl9 : lv_has ls 7 [(4, .int (nI (i + 1))), (3, .int (pI (par2 (eTg n X Y px.toInt py.toInt) (i + 1)))), (0, .ref r), (1, .int px), (2, .int py)] := by rw [e9_3]; exact hl9
                                exact ih_5 (i + 1) H locs ls (by omega) (by omega) (by intro k hk; rcases Nat.lt_or_ge k i with h | h; exact hno k h; have e9 : k = i := (by omega); subst e9; first | exact (sk_tg (by omega)).2 | (unfold eOn onS; unfold eCr at *; omega)) hP hD hS hl9
                              · exact absurd (by decide) c_387
                        · have c_362 : (X (nxt n i)).toInt ≤ px.toInt := zc_nlt rfl rfl c_362
                          refine lv_iconst (v := 2) hx hb dX7_where_184 (by decide) ?_
                          have hP9 := hP.sub (ws' := [(r, .inr (6, [.ref rx, .ref ry, .int (nI n), .int rg])), (rx, .inl (cI, cap, .inl X)), (ry, .inl (cI, cap, .inl Y))]) [0, 1, 2] rfl
                          have hD9 := hD.sub (ws' := [(r, .inr (6, [.ref rx, .ref ry, .int (nI n), .int rg])), (rx, .inl (cI, cap, .inl X)), (ry, .inl (cI, cap, .inl Y))]) [0, 1, 2] (by decide) rfl
                          rw [hQ9]
                          exact W.iret (v := 2) hx hb hr (fun t ht hW => ⟨⟨congrArg (fun z => Outcome.returned (some (Value.int z))) (show (2 : Int32) = whr n X Y px.toInt py.toInt from (whr_2 ⟨i, by omega, by unfold eOn onS; unfold eCr at *; omega⟩).symm), by rw [ht]; exact hP9, hD9⟩, hS.F ht⟩) hS.2.2 dX7_where_185
                  · have c_334 : (X i).toInt < px.toInt := zc_nle rfl rfl c_334
                    refine lv_aload_n hx hb dX7_where_90 rfl (lv_at hl 3 rfl) ?_
                    refine va_get (D := (dC, dI)) (ci := 6) (v := .ref rx) (C := RX7) (T := TX7) (N := 4) hx hb hts inX7 hown hK hP 0 rfl rfl 0 (by decide) (hts _ mw_161) (fun _ h9 => h9) rfl dX7_where_91 ?_
                    refine lv_iload hx hb dX7_where_94 (lv_at hl 0 rfl) ?_
                    refine z_iald hx hb hK hP 1 0 rfl rfl (e := nxt n i) rfl (by omega) (by omega) dX7_where_96 ?_
                    refine lv_iload_n hx hb dX7_where_97 rfl (lv_at hl 4 rfl) ?_
                    refine lv_icmp_ge (tgt := 104) hx hb dX7_where_98 (by decide) (fun c_388 => ?_) (fun c_388 => ?_)
                    · have c_388 : px.toInt ≤ (X (nxt n i)).toInt := zc_le rfl rfl c_388
                      refine lv_aload_n hx hb dX7_where_104 rfl (lv_at hl 3 rfl) ?_
                      refine va_get (D := (dC, dI)) (ci := 6) (v := .ref rx) (C := RX7) (T := TX7) (N := 4) hx hb hts inX7 hown hK hP 0 rfl rfl 0 (by decide) (hts _ mw_161) (fun _ h9 => h9) rfl dX7_where_105 ?_
                      refine lv_iload hx hb dX7_where_108 (lv_at hl 0 rfl) ?_
                      refine z_iald hx hb hK hP 1 0 rfl rfl (e := nxt n i) rfl (by omega) (by omega) dX7_where_110 ?_
                      refine lv_aload_n hx hb dX7_where_111 rfl (lv_at hl 3 rfl) ?_
                      refine va_get (D := (dC, dI)) (ci := 6) (v := .ref rx) (C := RX7) (T := TX7) (N := 4) hx hb hts inX7 hown hK hP 0 rfl rfl 0 (by decide) (hts _ mw_161) (fun _ h9 => h9) rfl dX7_where_112 ?_
                      refine lv_iload hx hb dX7_where_115 (lv_at hl 1 rfl) ?_
                      refine z_iald hx hb hK hP 1 0 rfl rfl (e := i) rfl (by omega) (by omega) dX7_where_117 ?_
                      refine lv_isub hx hb dX7_where_118 ?_
                      refine lv_iload_n hx hb dX7_where_119 rfl (lv_at hl 5 rfl) ?_
                      refine lv_aload_n hx hb dX7_where_120 rfl (lv_at hl 3 rfl) ?_
                      refine va_get (D := (dC, dI)) (ci := 6) (v := .ref ry) (C := RX7) (T := TX7) (N := 4) hx hb hts inX7 hown hK hP 0 rfl rfl 1 (by decide) (hts _ mw_168) (fun _ h9 => h9) rfl dX7_where_121 ?_
                      refine lv_iload hx hb dX7_where_124 (lv_at hl 1 rfl) ?_
                      refine z_iald hx hb hK hP 2 0 rfl rfl (e := i) rfl (by omega) (by omega) dX7_where_126 ?_
                      refine lv_isub hx hb dX7_where_127 ?_
                      refine lv_imul hx hb dX7_where_128 ?_
                      refine lv_aload_n hx hb dX7_where_129 rfl (lv_at hl 3 rfl) ?_
                      refine va_get (D := (dC, dI)) (ci := 6) (v := .ref ry) (C := RX7) (T := TX7) (N := 4) hx hb hts inX7 hown hK hP 0 rfl rfl 1 (by decide) (hts _ mw_168) (fun _ h9 => h9) rfl dX7_where_130 ?_
                      refine lv_iload hx hb dX7_where_133 (lv_at hl 0 rfl) ?_
                      refine z_iald hx hb hK hP 2 0 rfl rfl (e := nxt n i) rfl (by omega) (by omega) dX7_where_135 ?_
                      refine lv_aload_n hx hb dX7_where_136 rfl (lv_at hl 3 rfl) ?_
                      refine va_get (D := (dC, dI)) (ci := 6) (v := .ref ry) (C := RX7) (T := TX7) (N := 4) hx hb hts inX7 hown hK hP 0 rfl rfl 1 (by decide) (hts _ mw_168) (fun _ h9 => h9) rfl dX7_where_137 ?_
                      refine lv_iload hx hb dX7_where_140 (lv_at hl 1 rfl) ?_
                      refine z_iald hx hb hK hP 2 0 rfl rfl (e := i) rfl (by omega) (by omega) dX7_where_142 ?_
                      refine lv_isub hx hb dX7_where_143 ?_
                      refine lv_iload_n hx hb dX7_where_144 rfl (lv_at hl 4 rfl) ?_
                      refine lv_aload_n hx hb dX7_where_145 rfl (lv_at hl 3 rfl) ?_
                      refine va_get (D := (dC, dI)) (ci := 6) (v := .ref rx) (C := RX7) (T := TX7) (N := 4) hx hb hts inX7 hown hK hP 0 rfl rfl 0 (by decide) (hts _ mw_161) (fun _ h9 => h9) rfl dX7_where_146 ?_
                      refine lv_iload hx hb dX7_where_149 (lv_at hl 1 rfl) ?_
                      refine z_iald hx hb hK hP 1 0 rfl rfl (e := i) rfl (by omega) (by omega) dX7_where_151 ?_
                      refine lv_isub hx hb dX7_where_152 ?_
                      refine lv_imul hx hb dX7_where_153 ?_
                      refine lv_isub hx hb dX7_where_154 ?_
                      refine zz_i (v := iI (eCr n X Y i px.toInt py.toInt)) (crI (hp i (by omega)).1 (hp i (by omega)).2 (hp _ hnx).1 (hp _ hnx).2 hpx hpy) ?_
                      have hB1 := crBp (hp i (by omega)).1 (hp i (by omega)).2 (hp _ hnx).1 (hp _ hnx).2 hpx hpy
                      have hB1 : -2000000 ≤ eCr n X Y i px.toInt py.toInt ∧ eCr n X Y i px.toInt py.toInt ≤ 2000000 := hB1
                      refine lv_istore (lv' := [(6, .int (iI (eCr n X Y i px.toInt py.toInt))), (5, .int (nI (nxt n i))), (4, .int (nI i)), (3, .int (pI (par2 (eTg n X Y px.toInt py.toInt) i))), (0, .ref r), (1, .int px), (2, .int py)]) hx hb dX7_where_155 hl (by decide) rfl (fun ls hl => ?_)
                      refine lv_iload hx hb dX7_where_157 (lv_at hl 0 rfl) ?_
                      refine lv_if_ne (tgt := 186) hx hb dX7_where_159 (by decide) (fun c_389 => ?_) (fun c_389 => ?_)
                      · have c_389 : ¬ (eCr n X Y i px.toInt py.toInt) = 0 := zc_ne (iI_toInt (by omega)) (by decide) c_389
                        refine lv_aload_n hx hb dX7_where_186 rfl (lv_at hl 4 rfl) ?_
                        refine va_get (D := (dC, dI)) (ci := 6) (v := .ref ry) (C := RX7) (T := TX7) (N := 4) hx hb hts inX7 hown hK hP 0 rfl rfl 1 (by decide) (hts _ mw_168) (fun _ h9 => h9) rfl dX7_where_187 ?_
                        refine lv_iload hx hb dX7_where_190 (lv_at hl 2 rfl) ?_
                        refine z_iald hx hb hK hP 2 0 rfl rfl (e := i) rfl (by omega) (by omega) dX7_where_192 ?_
                        refine lv_iload_n hx hb dX7_where_193 rfl (lv_at hl 6 rfl) ?_
                        refine lv_icmp_le (tgt := 201) hx hb dX7_where_194 (by decide) (fun c_390 => ?_) (fun c_390 => ?_)
                        · have c_390 : (Y i).toInt ≤ py.toInt := zc_le rfl rfl c_390
                          refine lv_iconst (v := 0) hx hb dX7_where_201 (by decide) ?_
                          refine lv_aload_n hx hb dX7_where_202 rfl (lv_at hl 4 rfl) ?_
                          refine va_get (D := (dC, dI)) (ci := 6) (v := .ref ry) (C := RX7) (T := TX7) (N := 4) hx hb hts inX7 hown hK hP 0 rfl rfl 1 (by decide) (hts _ mw_168) (fun _ h9 => h9) rfl dX7_where_203 ?_
                          refine lv_iload hx hb dX7_where_206 (lv_at hl 1 rfl) ?_
                          refine z_iald hx hb hK hP 2 0 rfl rfl (e := nxt n i) rfl (by omega) (by omega) dX7_where_208 ?_
                          refine lv_iload_n hx hb dX7_where_209 rfl (lv_at hl 6 rfl) ?_
                          refine lv_icmp_le (tgt := 217) hx hb dX7_where_210 (by decide) (fun c_391 => ?_) (fun c_391 => ?_)
                          · have c_391 : (Y (nxt n i)).toInt ≤ py.toInt := zc_le rfl rfl c_391
                            refine lv_iconst (v := 0) hx hb dX7_where_217 (by decide) ?_
                            refine lv_icmp_eq (tgt := 266) hx hb dX7_where_218 (by decide) (fun c_392 => ?_) (fun c_392 => ?_)
                            · have c_392 : 0 = 0 := zc_eq (by decide) (by decide) c_392
                              refine lv_iinc (v := nI (i + 1)) (lv' := [(4, .int (nI (i + 1))), (6, .int (iI (eCr n X Y i px.toInt py.toInt))), (5, .int (nI (nxt n i))), (3, .int (pI (par2 (eTg n X Y px.toInt py.toInt) i))), (0, .ref r), (1, .int px), (2, .int py)]) hx hb dX7_where_266 hl (k := 2) rfl (nI_add i 1) (by decide) rfl (fun ls hl => ?_)
                              refine lv_goto (tgt := 5) hx hb dX7_where_269 (by decide) ?_
                              have hl9 := lv_sub hl [0, 3, 4, 5, 6] rfl
                              have e9_3 : pI (par2 (eTg n X Y px.toInt py.toInt) (i + 1)) = (pI (par2 (eTg n X Y px.toInt py.toInt) i) : Int32) := by first | exact zp_iff (par2_n (sk_tg (by omega)).1) | exact zp_iff (par2_n (by unfold eTg; omega)) | exact zp_t ((par2_y (by unfold eTg; omega)).mpr (by assumption)) | exact zp_f (fun q => (par2_y (by unfold eTg; omega)).mp q (by assumption))
                              have hl9 : lv_has ls 7 [(4, .int (nI (i + 1))), (3, .int (pI (par2 (eTg n X Y px.toInt py.toInt) (i + 1)))), (0, .ref r), (1, .int px), (2, .int py)] := by rw [e9_3]; exact hl9
                              exact ih_5 (i + 1) H locs ls (by omega) (by omega) (by intro k hk; rcases Nat.lt_or_ge k i with h | h; exact hno k h; have e9 : k = i := (by omega); subst e9; first | exact (sk_tg (by omega)).2 | (unfold eOn onS; unfold eCr at *; omega)) hP hD hS hl9
                            · exact absurd (by decide) c_392
                          · have c_391 : py.toInt < (Y (nxt n i)).toInt := zc_nle rfl rfl c_391
                            refine lv_iconst (v := 1) hx hb dX7_where_213 (by decide) ?_
                            refine lv_goto (tgt := 218) hx hb dX7_where_214 (by decide) ?_
                            refine lv_icmp_eq (tgt := 266) hx hb dX7_where_218 (by decide) (fun c_393 => ?_) (fun c_393 => ?_)
                            · exact absurd c_393 (by decide)
                            · have c_393 : ¬ 0 = 1 := zc_ne (by decide) (by decide) c_393
                              refine lv_iload hx hb dX7_where_221 (lv_at hl 0 rfl) ?_
                              refine lv_if_le (tgt := 230) hx hb dX7_where_223 (by decide) (fun c_394 => ?_) (fun c_394 => ?_)
                              · have c_394 : (eCr n X Y i px.toInt py.toInt) ≤ 0 := zc_le (iI_toInt (by omega)) (by decide) c_394
                                refine lv_iconst (v := 0) hx hb dX7_where_230 (by decide) ?_
                                refine lv_aload_n hx hb dX7_where_231 rfl (lv_at hl 4 rfl) ?_
                                refine va_get (D := (dC, dI)) (ci := 6) (v := .ref ry) (C := RX7) (T := TX7) (N := 4) hx hb hts inX7 hown hK hP 0 rfl rfl 1 (by decide) (hts _ mw_168) (fun _ h9 => h9) rfl dX7_where_232 ?_
                                refine lv_iload hx hb dX7_where_235 (lv_at hl 1 rfl) ?_
                                refine z_iald hx hb hK hP 2 0 rfl rfl (e := nxt n i) rfl (by omega) (by omega) dX7_where_237 ?_
                                refine lv_aload_n hx hb dX7_where_238 rfl (lv_at hl 4 rfl) ?_
                                refine va_get (D := (dC, dI)) (ci := 6) (v := .ref ry) (C := RX7) (T := TX7) (N := 4) hx hb hts inX7 hown hK hP 0 rfl rfl 1 (by decide) (hts _ mw_168) (fun _ h9 => h9) rfl dX7_where_239 ?_
                                refine lv_iload hx hb dX7_where_242 (lv_at hl 2 rfl) ?_
                                refine z_iald hx hb hK hP 2 0 rfl rfl (e := i) rfl (by omega) (by omega) dX7_where_244 ?_
                                refine lv_icmp_le (tgt := 252) hx hb dX7_where_245 (by decide) (fun c_395 => ?_) (fun c_395 => ?_)
                                · have c_395 : (Y (nxt n i)).toInt ≤ (Y i).toInt := zc_le rfl rfl c_395
                                  refine lv_iconst (v := 0) hx hb dX7_where_252 (by decide) ?_
                                  refine lv_icmp_ne (tgt := 266) hx hb dX7_where_253 (by decide) (fun c_396 => ?_) (fun c_396 => ?_)
                                  · exact absurd (by decide) c_396
                                  · have c_396 : 0 = 0 := zc_eq (by decide) (by decide) c_396
                                    refine lv_iload_n hx hb dX7_where_256 rfl (lv_at hl 3 rfl) ?_
                                    refine lv_if_ne (tgt := 264) hx hb dX7_where_257 (by decide) (fun c_397 => ?_) (fun c_397 => ?_)
                                    · have c_397 : par2 (eTg n X Y px.toInt py.toInt) i := zp_1 c_397
                                      refine lv_iconst (v := 0) hx hb dX7_where_264 (by decide) ?_
                                      refine lv_istore_n (lv' := [(3, .int 0), (6, .int (iI (eCr n X Y i px.toInt py.toInt))), (5, .int (nI (nxt n i))), (4, .int (nI i)), (0, .ref r), (1, .int px), (2, .int py)]) hx hb dX7_where_265 rfl hl (by decide) rfl (fun ls hl => ?_)
                                      refine lv_iinc (v := nI (i + 1)) (lv' := [(4, .int (nI (i + 1))), (3, .int 0), (6, .int (iI (eCr n X Y i px.toInt py.toInt))), (5, .int (nI (nxt n i))), (0, .ref r), (1, .int px), (2, .int py)]) hx hb dX7_where_266 hl (k := 3) rfl (nI_add i 1) (by decide) rfl (fun ls hl => ?_)
                                      refine lv_goto (tgt := 5) hx hb dX7_where_269 (by decide) ?_
                                      have hl9 := lv_sub hl [0, 1, 4, 5, 6] rfl
                                      have e9_3 : pI (par2 (eTg n X Y px.toInt py.toInt) (i + 1)) = (0 : Int32) := by first | exact zp_iff (par2_n (sk_tg (by omega)).1) | exact zp_iff (par2_n (by unfold eTg; omega)) | exact zp_t ((par2_y (by unfold eTg; omega)).mpr (by assumption)) | exact zp_f (fun q => (par2_y (by unfold eTg; omega)).mp q (by assumption))
                                      have hl9 : lv_has ls 7 [(4, .int (nI (i + 1))), (3, .int (pI (par2 (eTg n X Y px.toInt py.toInt) (i + 1)))), (0, .ref r), (1, .int px), (2, .int py)] := by rw [e9_3]; exact hl9
                                      exact ih_5 (i + 1) H locs ls (by omega) (by omega) (by intro k hk; rcases Nat.lt_or_ge k i with h | h; exact hno k h; have e9 : k = i := (by omega); subst e9; first | exact (sk_tg (by omega)).2 | (unfold eOn onS; unfold eCr at *; omega)) hP hD hS hl9
                                    · have c_397 : ¬ (par2 (eTg n X Y px.toInt py.toInt) i) := zp_0 c_397
                                      refine lv_iconst (v := 1) hx hb dX7_where_260 (by decide) ?_
                                      refine lv_goto (tgt := 265) hx hb dX7_where_261 (by decide) ?_
                                      refine lv_istore_n (lv' := [(3, .int 1), (6, .int (iI (eCr n X Y i px.toInt py.toInt))), (5, .int (nI (nxt n i))), (4, .int (nI i)), (0, .ref r), (1, .int px), (2, .int py)]) hx hb dX7_where_265 rfl hl (by decide) rfl (fun ls hl => ?_)
                                      refine lv_iinc (v := nI (i + 1)) (lv' := [(4, .int (nI (i + 1))), (3, .int 1), (6, .int (iI (eCr n X Y i px.toInt py.toInt))), (5, .int (nI (nxt n i))), (0, .ref r), (1, .int px), (2, .int py)]) hx hb dX7_where_266 hl (k := 3) rfl (nI_add i 1) (by decide) rfl (fun ls hl => ?_)
                                      refine lv_goto (tgt := 5) hx hb dX7_where_269 (by decide) ?_
                                      have hl9 := lv_sub hl [0, 1, 4, 5, 6] rfl
                                      have e9_3 : pI (par2 (eTg n X Y px.toInt py.toInt) (i + 1)) = (1 : Int32) := by first | exact zp_iff (par2_n (sk_tg (by omega)).1) | exact zp_iff (par2_n (by unfold eTg; omega)) | exact zp_t ((par2_y (by unfold eTg; omega)).mpr (by assumption)) | exact zp_f (fun q => (par2_y (by unfold eTg; omega)).mp q (by assumption))
                                      have hl9 : lv_has ls 7 [(4, .int (nI (i + 1))), (3, .int (pI (par2 (eTg n X Y px.toInt py.toInt) (i + 1)))), (0, .ref r), (1, .int px), (2, .int py)] := by rw [e9_3]; exact hl9
                                      exact ih_5 (i + 1) H locs ls (by omega) (by omega) (by intro k hk; rcases Nat.lt_or_ge k i with h | h; exact hno k h; have e9 : k = i := (by omega); subst e9; first | exact (sk_tg (by omega)).2 | (unfold eOn onS; unfold eCr at *; omega)) hP hD hS hl9
                                · have c_395 : (Y i).toInt < (Y (nxt n i)).toInt := zc_nle rfl rfl c_395
                                  refine lv_iconst (v := 1) hx hb dX7_where_248 (by decide) ?_
                                  refine lv_goto (tgt := 253) hx hb dX7_where_249 (by decide) ?_
                                  refine lv_icmp_ne (tgt := 266) hx hb dX7_where_253 (by decide) (fun c_398 => ?_) (fun c_398 => ?_)
                                  · have c_398 : ¬ 0 = 1 := zc_ne (by decide) (by decide) c_398
                                    refine lv_iinc (v := nI (i + 1)) (lv' := [(4, .int (nI (i + 1))), (6, .int (iI (eCr n X Y i px.toInt py.toInt))), (5, .int (nI (nxt n i))), (3, .int (pI (par2 (eTg n X Y px.toInt py.toInt) i))), (0, .ref r), (1, .int px), (2, .int py)]) hx hb dX7_where_266 hl (k := 2) rfl (nI_add i 1) (by decide) rfl (fun ls hl => ?_)
                                    refine lv_goto (tgt := 5) hx hb dX7_where_269 (by decide) ?_
                                    have hl9 := lv_sub hl [0, 3, 4, 5, 6] rfl
                                    have e9_3 : pI (par2 (eTg n X Y px.toInt py.toInt) (i + 1)) = (pI (par2 (eTg n X Y px.toInt py.toInt) i) : Int32) := by first | exact zp_iff (par2_n (sk_tg (by omega)).1) | exact zp_iff (par2_n (by unfold eTg; omega)) | exact zp_t ((par2_y (by unfold eTg; omega)).mpr (by assumption)) | exact zp_f (fun q => (par2_y (by unfold eTg; omega)).mp q (by assumption))
                                    have hl9 : lv_has ls 7 [(4, .int (nI (i + 1))), (3, .int (pI (par2 (eTg n X Y px.toInt py.toInt) (i + 1)))), (0, .ref r), (1, .int px), (2, .int py)] := by rw [e9_3]; exact hl9
                                    exact ih_5 (i + 1) H locs ls (by omega) (by omega) (by intro k hk; rcases Nat.lt_or_ge k i with h | h; exact hno k h; have e9 : k = i := (by omega); subst e9; first | exact (sk_tg (by omega)).2 | (unfold eOn onS; unfold eCr at *; omega)) hP hD hS hl9
                                  · exact absurd c_398 (by decide)
                              · have c_394 : 0 < (eCr n X Y i px.toInt py.toInt) := zc_nle (iI_toInt (by omega)) (by decide) c_394
                                refine lv_iconst (v := 1) hx hb dX7_where_226 (by decide) ?_
                                refine lv_goto (tgt := 231) hx hb dX7_where_227 (by decide) ?_
                                refine lv_aload_n hx hb dX7_where_231 rfl (lv_at hl 4 rfl) ?_
                                refine va_get (D := (dC, dI)) (ci := 6) (v := .ref ry) (C := RX7) (T := TX7) (N := 4) hx hb hts inX7 hown hK hP 0 rfl rfl 1 (by decide) (hts _ mw_168) (fun _ h9 => h9) rfl dX7_where_232 ?_
                                refine lv_iload hx hb dX7_where_235 (lv_at hl 1 rfl) ?_
                                refine z_iald hx hb hK hP 2 0 rfl rfl (e := nxt n i) rfl (by omega) (by omega) dX7_where_237 ?_
                                refine lv_aload_n hx hb dX7_where_238 rfl (lv_at hl 4 rfl) ?_
                                refine va_get (D := (dC, dI)) (ci := 6) (v := .ref ry) (C := RX7) (T := TX7) (N := 4) hx hb hts inX7 hown hK hP 0 rfl rfl 1 (by decide) (hts _ mw_168) (fun _ h9 => h9) rfl dX7_where_239 ?_
                                refine lv_iload hx hb dX7_where_242 (lv_at hl 2 rfl) ?_
                                refine z_iald hx hb hK hP 2 0 rfl rfl (e := i) rfl (by omega) (by omega) dX7_where_244 ?_
                                refine lv_icmp_le (tgt := 252) hx hb dX7_where_245 (by decide) (fun c_399 => ?_) (fun c_399 => ?_)
                                · have c_399 : (Y (nxt n i)).toInt ≤ (Y i).toInt := zc_le rfl rfl c_399
                                  refine lv_iconst (v := 0) hx hb dX7_where_252 (by decide) ?_
                                  refine lv_icmp_ne (tgt := 266) hx hb dX7_where_253 (by decide) (fun c_400 => ?_) (fun c_400 => ?_)
                                  · have c_400 : ¬ 1 = 0 := zc_ne (by decide) (by decide) c_400
                                    refine lv_iinc (v := nI (i + 1)) (lv' := [(4, .int (nI (i + 1))), (6, .int (iI (eCr n X Y i px.toInt py.toInt))), (5, .int (nI (nxt n i))), (3, .int (pI (par2 (eTg n X Y px.toInt py.toInt) i))), (0, .ref r), (1, .int px), (2, .int py)]) hx hb dX7_where_266 hl (k := 2) rfl (nI_add i 1) (by decide) rfl (fun ls hl => ?_)
                                    refine lv_goto (tgt := 5) hx hb dX7_where_269 (by decide) ?_
                                    have hl9 := lv_sub hl [0, 3, 4, 5, 6] rfl
                                    have e9_3 : pI (par2 (eTg n X Y px.toInt py.toInt) (i + 1)) = (pI (par2 (eTg n X Y px.toInt py.toInt) i) : Int32) := by first | exact zp_iff (par2_n (sk_tg (by omega)).1) | exact zp_iff (par2_n (by unfold eTg; omega)) | exact zp_t ((par2_y (by unfold eTg; omega)).mpr (by assumption)) | exact zp_f (fun q => (par2_y (by unfold eTg; omega)).mp q (by assumption))
                                    have hl9 : lv_has ls 7 [(4, .int (nI (i + 1))), (3, .int (pI (par2 (eTg n X Y px.toInt py.toInt) (i + 1)))), (0, .ref r), (1, .int px), (2, .int py)] := by rw [e9_3]; exact hl9
                                    exact ih_5 (i + 1) H locs ls (by omega) (by omega) (by intro k hk; rcases Nat.lt_or_ge k i with h | h; exact hno k h; have e9 : k = i := (by omega); subst e9; first | exact (sk_tg (by omega)).2 | (unfold eOn onS; unfold eCr at *; omega)) hP hD hS hl9
                                  · exact absurd c_400 (by decide)
                                · have c_399 : (Y i).toInt < (Y (nxt n i)).toInt := zc_nle rfl rfl c_399
                                  refine lv_iconst (v := 1) hx hb dX7_where_248 (by decide) ?_
                                  refine lv_goto (tgt := 253) hx hb dX7_where_249 (by decide) ?_
                                  refine lv_icmp_ne (tgt := 266) hx hb dX7_where_253 (by decide) (fun c_401 => ?_) (fun c_401 => ?_)
                                  · exact absurd (by decide) c_401
                                  · have c_401 : 1 = 1 := zc_eq (by decide) (by decide) c_401
                                    refine lv_iload_n hx hb dX7_where_256 rfl (lv_at hl 3 rfl) ?_
                                    refine lv_if_ne (tgt := 264) hx hb dX7_where_257 (by decide) (fun c_402 => ?_) (fun c_402 => ?_)
                                    · have c_402 : par2 (eTg n X Y px.toInt py.toInt) i := zp_1 c_402
                                      refine lv_iconst (v := 0) hx hb dX7_where_264 (by decide) ?_
                                      refine lv_istore_n (lv' := [(3, .int 0), (6, .int (iI (eCr n X Y i px.toInt py.toInt))), (5, .int (nI (nxt n i))), (4, .int (nI i)), (0, .ref r), (1, .int px), (2, .int py)]) hx hb dX7_where_265 rfl hl (by decide) rfl (fun ls hl => ?_)
                                      refine lv_iinc (v := nI (i + 1)) (lv' := [(4, .int (nI (i + 1))), (3, .int 0), (6, .int (iI (eCr n X Y i px.toInt py.toInt))), (5, .int (nI (nxt n i))), (0, .ref r), (1, .int px), (2, .int py)]) hx hb dX7_where_266 hl (k := 3) rfl (nI_add i 1) (by decide) rfl (fun ls hl => ?_)
                                      refine lv_goto (tgt := 5) hx hb dX7_where_269 (by decide) ?_
                                      have hl9 := lv_sub hl [0, 1, 4, 5, 6] rfl
                                      have e9_3 : pI (par2 (eTg n X Y px.toInt py.toInt) (i + 1)) = (0 : Int32) := by first | exact zp_iff (par2_n (sk_tg (by omega)).1) | exact zp_iff (par2_n (by unfold eTg; omega)) | exact zp_t ((par2_y (by unfold eTg; omega)).mpr (by assumption)) | exact zp_f (fun q => (par2_y (by unfold eTg; omega)).mp q (by assumption))
                                      have hl9 : lv_has ls 7 [(4, .int (nI (i + 1))), (3, .int (pI (par2 (eTg n X Y px.toInt py.toInt) (i + 1)))), (0, .ref r), (1, .int px), (2, .int py)] := by rw [e9_3]; exact hl9
                                      exact ih_5 (i + 1) H locs ls (by omega) (by omega) (by intro k hk; rcases Nat.lt_or_ge k i with h | h; exact hno k h; have e9 : k = i := (by omega); subst e9; first | exact (sk_tg (by omega)).2 | (unfold eOn onS; unfold eCr at *; omega)) hP hD hS hl9
                                    · have c_402 : ¬ (par2 (eTg n X Y px.toInt py.toInt) i) := zp_0 c_402
                                      refine lv_iconst (v := 1) hx hb dX7_where_260 (by decide) ?_
                                      refine lv_goto (tgt := 265) hx hb dX7_where_261 (by decide) ?_
                                      refine lv_istore_n (lv' := [(3, .int 1), (6, .int (iI (eCr n X Y i px.toInt py.toInt))), (5, .int (nI (nxt n i))), (4, .int (nI i)), (0, .ref r), (1, .int px), (2, .int py)]) hx hb dX7_where_265 rfl hl (by decide) rfl (fun ls hl => ?_)
                                      refine lv_iinc (v := nI (i + 1)) (lv' := [(4, .int (nI (i + 1))), (3, .int 1), (6, .int (iI (eCr n X Y i px.toInt py.toInt))), (5, .int (nI (nxt n i))), (0, .ref r), (1, .int px), (2, .int py)]) hx hb dX7_where_266 hl (k := 3) rfl (nI_add i 1) (by decide) rfl (fun ls hl => ?_)
                                      refine lv_goto (tgt := 5) hx hb dX7_where_269 (by decide) ?_
                                      have hl9 := lv_sub hl [0, 1, 4, 5, 6] rfl
                                      have e9_3 : pI (par2 (eTg n X Y px.toInt py.toInt) (i + 1)) = (1 : Int32) := by first | exact zp_iff (par2_n (sk_tg (by omega)).1) | exact zp_iff (par2_n (by unfold eTg; omega)) | exact zp_t ((par2_y (by unfold eTg; omega)).mpr (by assumption)) | exact zp_f (fun q => (par2_y (by unfold eTg; omega)).mp q (by assumption))
                                      have hl9 : lv_has ls 7 [(4, .int (nI (i + 1))), (3, .int (pI (par2 (eTg n X Y px.toInt py.toInt) (i + 1)))), (0, .ref r), (1, .int px), (2, .int py)] := by rw [e9_3]; exact hl9
                                      exact ih_5 (i + 1) H locs ls (by omega) (by omega) (by intro k hk; rcases Nat.lt_or_ge k i with h | h; exact hno k h; have e9 : k = i := (by omega); subst e9; first | exact (sk_tg (by omega)).2 | (unfold eOn onS; unfold eCr at *; omega)) hP hD hS hl9
                        · have c_390 : py.toInt < (Y i).toInt := zc_nle rfl rfl c_390
                          refine lv_iconst (v := 1) hx hb dX7_where_197 (by decide) ?_
                          refine lv_goto (tgt := 202) hx hb dX7_where_198 (by decide) ?_
                          refine lv_aload_n hx hb dX7_where_202 rfl (lv_at hl 4 rfl) ?_
                          refine va_get (D := (dC, dI)) (ci := 6) (v := .ref ry) (C := RX7) (T := TX7) (N := 4) hx hb hts inX7 hown hK hP 0 rfl rfl 1 (by decide) (hts _ mw_168) (fun _ h9 => h9) rfl dX7_where_203 ?_
                          refine lv_iload hx hb dX7_where_206 (lv_at hl 1 rfl) ?_
                          refine z_iald hx hb hK hP 2 0 rfl rfl (e := nxt n i) rfl (by omega) (by omega) dX7_where_208 ?_
                          refine lv_iload_n hx hb dX7_where_209 rfl (lv_at hl 6 rfl) ?_
                          refine lv_icmp_le (tgt := 217) hx hb dX7_where_210 (by decide) (fun c_403 => ?_) (fun c_403 => ?_)
                          · have c_403 : (Y (nxt n i)).toInt ≤ py.toInt := zc_le rfl rfl c_403
                            refine lv_iconst (v := 0) hx hb dX7_where_217 (by decide) ?_
                            refine lv_icmp_eq (tgt := 266) hx hb dX7_where_218 (by decide) (fun c_404 => ?_) (fun c_404 => ?_)
                            · exact absurd c_404 (by decide)
                            · have c_404 : ¬ 1 = 0 := zc_ne (by decide) (by decide) c_404
                              refine lv_iload hx hb dX7_where_221 (lv_at hl 0 rfl) ?_
                              refine lv_if_le (tgt := 230) hx hb dX7_where_223 (by decide) (fun c_405 => ?_) (fun c_405 => ?_)
                              · have c_405 : (eCr n X Y i px.toInt py.toInt) ≤ 0 := zc_le (iI_toInt (by omega)) (by decide) c_405
                                refine lv_iconst (v := 0) hx hb dX7_where_230 (by decide) ?_
                                refine lv_aload_n hx hb dX7_where_231 rfl (lv_at hl 4 rfl) ?_
                                refine va_get (D := (dC, dI)) (ci := 6) (v := .ref ry) (C := RX7) (T := TX7) (N := 4) hx hb hts inX7 hown hK hP 0 rfl rfl 1 (by decide) (hts _ mw_168) (fun _ h9 => h9) rfl dX7_where_232 ?_
                                refine lv_iload hx hb dX7_where_235 (lv_at hl 1 rfl) ?_
                                refine z_iald hx hb hK hP 2 0 rfl rfl (e := nxt n i) rfl (by omega) (by omega) dX7_where_237 ?_
                                refine lv_aload_n hx hb dX7_where_238 rfl (lv_at hl 4 rfl) ?_
                                refine va_get (D := (dC, dI)) (ci := 6) (v := .ref ry) (C := RX7) (T := TX7) (N := 4) hx hb hts inX7 hown hK hP 0 rfl rfl 1 (by decide) (hts _ mw_168) (fun _ h9 => h9) rfl dX7_where_239 ?_
                                refine lv_iload hx hb dX7_where_242 (lv_at hl 2 rfl) ?_
                                refine z_iald hx hb hK hP 2 0 rfl rfl (e := i) rfl (by omega) (by omega) dX7_where_244 ?_
                                refine lv_icmp_le (tgt := 252) hx hb dX7_where_245 (by decide) (fun c_406 => ?_) (fun c_406 => ?_)
                                · have c_406 : (Y (nxt n i)).toInt ≤ (Y i).toInt := zc_le rfl rfl c_406
                                  refine lv_iconst (v := 0) hx hb dX7_where_252 (by decide) ?_
                                  refine lv_icmp_ne (tgt := 266) hx hb dX7_where_253 (by decide) (fun c_407 => ?_) (fun c_407 => ?_)
                                  · exact absurd (by decide) c_407
                                  · have c_407 : 0 = 0 := zc_eq (by decide) (by decide) c_407
                                    refine lv_iload_n hx hb dX7_where_256 rfl (lv_at hl 3 rfl) ?_
                                    refine lv_if_ne (tgt := 264) hx hb dX7_where_257 (by decide) (fun c_408 => ?_) (fun c_408 => ?_)
                                    · have c_408 : par2 (eTg n X Y px.toInt py.toInt) i := zp_1 c_408
                                      refine lv_iconst (v := 0) hx hb dX7_where_264 (by decide) ?_
                                      refine lv_istore_n (lv' := [(3, .int 0), (6, .int (iI (eCr n X Y i px.toInt py.toInt))), (5, .int (nI (nxt n i))), (4, .int (nI i)), (0, .ref r), (1, .int px), (2, .int py)]) hx hb dX7_where_265 rfl hl (by decide) rfl (fun ls hl => ?_)
                                      refine lv_iinc (v := nI (i + 1)) (lv' := [(4, .int (nI (i + 1))), (3, .int 0), (6, .int (iI (eCr n X Y i px.toInt py.toInt))), (5, .int (nI (nxt n i))), (0, .ref r), (1, .int px), (2, .int py)]) hx hb dX7_where_266 hl (k := 3) rfl (nI_add i 1) (by decide) rfl (fun ls hl => ?_)
                                      refine lv_goto (tgt := 5) hx hb dX7_where_269 (by decide) ?_
                                      have hl9 := lv_sub hl [0, 1, 4, 5, 6] rfl
                                      have e9_3 : pI (par2 (eTg n X Y px.toInt py.toInt) (i + 1)) = (0 : Int32) := by first | exact zp_iff (par2_n (sk_tg (by omega)).1) | exact zp_iff (par2_n (by unfold eTg; omega)) | exact zp_t ((par2_y (by unfold eTg; omega)).mpr (by assumption)) | exact zp_f (fun q => (par2_y (by unfold eTg; omega)).mp q (by assumption))
                                      have hl9 : lv_has ls 7 [(4, .int (nI (i + 1))), (3, .int (pI (par2 (eTg n X Y px.toInt py.toInt) (i + 1)))), (0, .ref r), (1, .int px), (2, .int py)] := by rw [e9_3]; exact hl9
                                      exact ih_5 (i + 1) H locs ls (by omega) (by omega) (by intro k hk; rcases Nat.lt_or_ge k i with h | h; exact hno k h; have e9 : k = i := (by omega); subst e9; first | exact (sk_tg (by omega)).2 | (unfold eOn onS; unfold eCr at *; omega)) hP hD hS hl9
                                    · have c_408 : ¬ (par2 (eTg n X Y px.toInt py.toInt) i) := zp_0 c_408
                                      refine lv_iconst (v := 1) hx hb dX7_where_260 (by decide) ?_
                                      refine lv_goto (tgt := 265) hx hb dX7_where_261 (by decide) ?_
                                      refine lv_istore_n (lv' := [(3, .int 1), (6, .int (iI (eCr n X Y i px.toInt py.toInt))), (5, .int (nI (nxt n i))), (4, .int (nI i)), (0, .ref r), (1, .int px), (2, .int py)]) hx hb dX7_where_265 rfl hl (by decide) rfl (fun ls hl => ?_)
                                      refine lv_iinc (v := nI (i + 1)) (lv' := [(4, .int (nI (i + 1))), (3, .int 1), (6, .int (iI (eCr n X Y i px.toInt py.toInt))), (5, .int (nI (nxt n i))), (0, .ref r), (1, .int px), (2, .int py)]) hx hb dX7_where_266 hl (k := 3) rfl (nI_add i 1) (by decide) rfl (fun ls hl => ?_)
                                      refine lv_goto (tgt := 5) hx hb dX7_where_269 (by decide) ?_
                                      have hl9 := lv_sub hl [0, 1, 4, 5, 6] rfl
                                      have e9_3 : pI (par2 (eTg n X Y px.toInt py.toInt) (i + 1)) = (1 : Int32) := by first | exact zp_iff (par2_n (sk_tg (by omega)).1) | exact zp_iff (par2_n (by unfold eTg; omega)) | exact zp_t ((par2_y (by unfold eTg; omega)).mpr (by assumption)) | exact zp_f (fun q => (par2_y (by unfold eTg; omega)).mp q (by assumption))
                                      have hl9 : lv_has ls 7 [(4, .int (nI (i + 1))), (3, .int (pI (par2 (eTg n X Y px.toInt py.toInt) (i + 1)))), (0, .ref r), (1, .int px), (2, .int py)] := by rw [e9_3]; exact hl9
                                      exact ih_5 (i + 1) H locs ls (by omega) (by omega) (by intro k hk; rcases Nat.lt_or_ge k i with h | h; exact hno k h; have e9 : k = i := (by omega); subst e9; first | exact (sk_tg (by omega)).2 | (unfold eOn onS; unfold eCr at *; omega)) hP hD hS hl9
                                · have c_406 : (Y i).toInt < (Y (nxt n i)).toInt := zc_nle rfl rfl c_406
                                  refine lv_iconst (v := 1) hx hb dX7_where_248 (by decide) ?_
                                  refine lv_goto (tgt := 253) hx hb dX7_where_249 (by decide) ?_
                                  refine lv_icmp_ne (tgt := 266) hx hb dX7_where_253 (by decide) (fun c_409 => ?_) (fun c_409 => ?_)
                                  · have c_409 : ¬ 0 = 1 := zc_ne (by decide) (by decide) c_409
                                    refine lv_iinc (v := nI (i + 1)) (lv' := [(4, .int (nI (i + 1))), (6, .int (iI (eCr n X Y i px.toInt py.toInt))), (5, .int (nI (nxt n i))), (3, .int (pI (par2 (eTg n X Y px.toInt py.toInt) i))), (0, .ref r), (1, .int px), (2, .int py)]) hx hb dX7_where_266 hl (k := 2) rfl (nI_add i 1) (by decide) rfl (fun ls hl => ?_)
                                    refine lv_goto (tgt := 5) hx hb dX7_where_269 (by decide) ?_
                                    have hl9 := lv_sub hl [0, 3, 4, 5, 6] rfl
                                    have e9_3 : pI (par2 (eTg n X Y px.toInt py.toInt) (i + 1)) = (pI (par2 (eTg n X Y px.toInt py.toInt) i) : Int32) := by first | exact zp_iff (par2_n (sk_tg (by omega)).1) | exact zp_iff (par2_n (by unfold eTg; omega)) | exact zp_t ((par2_y (by unfold eTg; omega)).mpr (by assumption)) | exact zp_f (fun q => (par2_y (by unfold eTg; omega)).mp q (by assumption))
                                    have hl9 : lv_has ls 7 [(4, .int (nI (i + 1))), (3, .int (pI (par2 (eTg n X Y px.toInt py.toInt) (i + 1)))), (0, .ref r), (1, .int px), (2, .int py)] := by rw [e9_3]; exact hl9
                                    exact ih_5 (i + 1) H locs ls (by omega) (by omega) (by intro k hk; rcases Nat.lt_or_ge k i with h | h; exact hno k h; have e9 : k = i := (by omega); subst e9; first | exact (sk_tg (by omega)).2 | (unfold eOn onS; unfold eCr at *; omega)) hP hD hS hl9
                                  · exact absurd c_409 (by decide)
                              · have c_405 : 0 < (eCr n X Y i px.toInt py.toInt) := zc_nle (iI_toInt (by omega)) (by decide) c_405
                                refine lv_iconst (v := 1) hx hb dX7_where_226 (by decide) ?_
                                refine lv_goto (tgt := 231) hx hb dX7_where_227 (by decide) ?_
                                refine lv_aload_n hx hb dX7_where_231 rfl (lv_at hl 4 rfl) ?_
                                refine va_get (D := (dC, dI)) (ci := 6) (v := .ref ry) (C := RX7) (T := TX7) (N := 4) hx hb hts inX7 hown hK hP 0 rfl rfl 1 (by decide) (hts _ mw_168) (fun _ h9 => h9) rfl dX7_where_232 ?_
                                refine lv_iload hx hb dX7_where_235 (lv_at hl 1 rfl) ?_
                                refine z_iald hx hb hK hP 2 0 rfl rfl (e := nxt n i) rfl (by omega) (by omega) dX7_where_237 ?_
                                refine lv_aload_n hx hb dX7_where_238 rfl (lv_at hl 4 rfl) ?_
                                refine va_get (D := (dC, dI)) (ci := 6) (v := .ref ry) (C := RX7) (T := TX7) (N := 4) hx hb hts inX7 hown hK hP 0 rfl rfl 1 (by decide) (hts _ mw_168) (fun _ h9 => h9) rfl dX7_where_239 ?_
                                refine lv_iload hx hb dX7_where_242 (lv_at hl 2 rfl) ?_
                                refine z_iald hx hb hK hP 2 0 rfl rfl (e := i) rfl (by omega) (by omega) dX7_where_244 ?_
                                refine lv_icmp_le (tgt := 252) hx hb dX7_where_245 (by decide) (fun c_410 => ?_) (fun c_410 => ?_)
                                · have c_410 : (Y (nxt n i)).toInt ≤ (Y i).toInt := zc_le rfl rfl c_410
                                  refine lv_iconst (v := 0) hx hb dX7_where_252 (by decide) ?_
                                  refine lv_icmp_ne (tgt := 266) hx hb dX7_where_253 (by decide) (fun c_411 => ?_) (fun c_411 => ?_)
                                  · have c_411 : ¬ 1 = 0 := zc_ne (by decide) (by decide) c_411
                                    refine lv_iinc (v := nI (i + 1)) (lv' := [(4, .int (nI (i + 1))), (6, .int (iI (eCr n X Y i px.toInt py.toInt))), (5, .int (nI (nxt n i))), (3, .int (pI (par2 (eTg n X Y px.toInt py.toInt) i))), (0, .ref r), (1, .int px), (2, .int py)]) hx hb dX7_where_266 hl (k := 2) rfl (nI_add i 1) (by decide) rfl (fun ls hl => ?_)
                                    refine lv_goto (tgt := 5) hx hb dX7_where_269 (by decide) ?_
                                    have hl9 := lv_sub hl [0, 3, 4, 5, 6] rfl
                                    have e9_3 : pI (par2 (eTg n X Y px.toInt py.toInt) (i + 1)) = (pI (par2 (eTg n X Y px.toInt py.toInt) i) : Int32) := by first | exact zp_iff (par2_n (sk_tg (by omega)).1) | exact zp_iff (par2_n (by unfold eTg; omega)) | exact zp_t ((par2_y (by unfold eTg; omega)).mpr (by assumption)) | exact zp_f (fun q => (par2_y (by unfold eTg; omega)).mp q (by assumption))
                                    have hl9 : lv_has ls 7 [(4, .int (nI (i + 1))), (3, .int (pI (par2 (eTg n X Y px.toInt py.toInt) (i + 1)))), (0, .ref r), (1, .int px), (2, .int py)] := by rw [e9_3]; exact hl9
                                    exact ih_5 (i + 1) H locs ls (by omega) (by omega) (by intro k hk; rcases Nat.lt_or_ge k i with h | h; exact hno k h; have e9 : k = i := (by omega); subst e9; first | exact (sk_tg (by omega)).2 | (unfold eOn onS; unfold eCr at *; omega)) hP hD hS hl9
                                  · exact absurd c_411 (by decide)
                                · have c_410 : (Y i).toInt < (Y (nxt n i)).toInt := zc_nle rfl rfl c_410
                                  refine lv_iconst (v := 1) hx hb dX7_where_248 (by decide) ?_
                                  refine lv_goto (tgt := 253) hx hb dX7_where_249 (by decide) ?_
                                  refine lv_icmp_ne (tgt := 266) hx hb dX7_where_253 (by decide) (fun c_412 => ?_) (fun c_412 => ?_)
                                  · exact absurd (by decide) c_412
                                  · have c_412 : 1 = 1 := zc_eq (by decide) (by decide) c_412
                                    refine lv_iload_n hx hb dX7_where_256 rfl (lv_at hl 3 rfl) ?_
                                    refine lv_if_ne (tgt := 264) hx hb dX7_where_257 (by decide) (fun c_413 => ?_) (fun c_413 => ?_)
                                    · have c_413 : par2 (eTg n X Y px.toInt py.toInt) i := zp_1 c_413
                                      refine lv_iconst (v := 0) hx hb dX7_where_264 (by decide) ?_
                                      refine lv_istore_n (lv' := [(3, .int 0), (6, .int (iI (eCr n X Y i px.toInt py.toInt))), (5, .int (nI (nxt n i))), (4, .int (nI i)), (0, .ref r), (1, .int px), (2, .int py)]) hx hb dX7_where_265 rfl hl (by decide) rfl (fun ls hl => ?_)
                                      refine lv_iinc (v := nI (i + 1)) (lv' := [(4, .int (nI (i + 1))), (3, .int 0), (6, .int (iI (eCr n X Y i px.toInt py.toInt))), (5, .int (nI (nxt n i))), (0, .ref r), (1, .int px), (2, .int py)]) hx hb dX7_where_266 hl (k := 3) rfl (nI_add i 1) (by decide) rfl (fun ls hl => ?_)
                                      refine lv_goto (tgt := 5) hx hb dX7_where_269 (by decide) ?_
                                      have hl9 := lv_sub hl [0, 1, 4, 5, 6] rfl
                                      have e9_3 : pI (par2 (eTg n X Y px.toInt py.toInt) (i + 1)) = (0 : Int32) := by first | exact zp_iff (par2_n (sk_tg (by omega)).1) | exact zp_iff (par2_n (by unfold eTg; omega)) | exact zp_t ((par2_y (by unfold eTg; omega)).mpr (by assumption)) | exact zp_f (fun q => (par2_y (by unfold eTg; omega)).mp q (by assumption))
                                      have hl9 : lv_has ls 7 [(4, .int (nI (i + 1))), (3, .int (pI (par2 (eTg n X Y px.toInt py.toInt) (i + 1)))), (0, .ref r), (1, .int px), (2, .int py)] := by rw [e9_3]; exact hl9
                                      exact ih_5 (i + 1) H locs ls (by omega) (by omega) (by intro k hk; rcases Nat.lt_or_ge k i with h | h; exact hno k h; have e9 : k = i := (by omega); subst e9; first | exact (sk_tg (by omega)).2 | (unfold eOn onS; unfold eCr at *; omega)) hP hD hS hl9
                                    · have c_413 : ¬ (par2 (eTg n X Y px.toInt py.toInt) i) := zp_0 c_413
                                      refine lv_iconst (v := 1) hx hb dX7_where_260 (by decide) ?_
                                      refine lv_goto (tgt := 265) hx hb dX7_where_261 (by decide) ?_
                                      refine lv_istore_n (lv' := [(3, .int 1), (6, .int (iI (eCr n X Y i px.toInt py.toInt))), (5, .int (nI (nxt n i))), (4, .int (nI i)), (0, .ref r), (1, .int px), (2, .int py)]) hx hb dX7_where_265 rfl hl (by decide) rfl (fun ls hl => ?_)
                                      refine lv_iinc (v := nI (i + 1)) (lv' := [(4, .int (nI (i + 1))), (3, .int 1), (6, .int (iI (eCr n X Y i px.toInt py.toInt))), (5, .int (nI (nxt n i))), (0, .ref r), (1, .int px), (2, .int py)]) hx hb dX7_where_266 hl (k := 3) rfl (nI_add i 1) (by decide) rfl (fun ls hl => ?_)
                                      refine lv_goto (tgt := 5) hx hb dX7_where_269 (by decide) ?_
                                      have hl9 := lv_sub hl [0, 1, 4, 5, 6] rfl
                                      have e9_3 : pI (par2 (eTg n X Y px.toInt py.toInt) (i + 1)) = (1 : Int32) := by first | exact zp_iff (par2_n (sk_tg (by omega)).1) | exact zp_iff (par2_n (by unfold eTg; omega)) | exact zp_t ((par2_y (by unfold eTg; omega)).mpr (by assumption)) | exact zp_f (fun q => (par2_y (by unfold eTg; omega)).mp q (by assumption))
                                      have hl9 : lv_has ls 7 [(4, .int (nI (i + 1))), (3, .int (pI (par2 (eTg n X Y px.toInt py.toInt) (i + 1)))), (0, .ref r), (1, .int px), (2, .int py)] := by rw [e9_3]; exact hl9
                                      exact ih_5 (i + 1) H locs ls (by omega) (by omega) (by intro k hk; rcases Nat.lt_or_ge k i with h | h; exact hno k h; have e9 : k = i := (by omega); subst e9; first | exact (sk_tg (by omega)).2 | (unfold eOn onS; unfold eCr at *; omega)) hP hD hS hl9
                          · have c_403 : py.toInt < (Y (nxt n i)).toInt := zc_nle rfl rfl c_403
                            refine lv_iconst (v := 1) hx hb dX7_where_213 (by decide) ?_
                            refine lv_goto (tgt := 218) hx hb dX7_where_214 (by decide) ?_
                            refine lv_icmp_eq (tgt := 266) hx hb dX7_where_218 (by decide) (fun c_414 => ?_) (fun c_414 => ?_)
                            · have c_414 : 1 = 1 := zc_eq (by decide) (by decide) c_414
                              refine lv_iinc (v := nI (i + 1)) (lv' := [(4, .int (nI (i + 1))), (6, .int (iI (eCr n X Y i px.toInt py.toInt))), (5, .int (nI (nxt n i))), (3, .int (pI (par2 (eTg n X Y px.toInt py.toInt) i))), (0, .ref r), (1, .int px), (2, .int py)]) hx hb dX7_where_266 hl (k := 2) rfl (nI_add i 1) (by decide) rfl (fun ls hl => ?_)
                              refine lv_goto (tgt := 5) hx hb dX7_where_269 (by decide) ?_
                              have hl9 := lv_sub hl [0, 3, 4, 5, 6] rfl
                              have e9_3 : pI (par2 (eTg n X Y px.toInt py.toInt) (i + 1)) = (pI (par2 (eTg n X Y px.toInt py.toInt) i) : Int32) := by first | exact zp_iff (par2_n (sk_tg (by omega)).1) | exact zp_iff (par2_n (by unfold eTg; omega)) | exact zp_t ((par2_y (by unfold eTg; omega)).mpr (by assumption)) | exact zp_f (fun q => (par2_y (by unfold eTg; omega)).mp q (by assumption))
                              have hl9 : lv_has ls 7 [(4, .int (nI (i + 1))), (3, .int (pI (par2 (eTg n X Y px.toInt py.toInt) (i + 1)))), (0, .ref r), (1, .int px), (2, .int py)] := by rw [e9_3]; exact hl9
                              exact ih_5 (i + 1) H locs ls (by omega) (by omega) (by intro k hk; rcases Nat.lt_or_ge k i with h | h; exact hno k h; have e9 : k = i := (by omega); subst e9; first | exact (sk_tg (by omega)).2 | (unfold eOn onS; unfold eCr at *; omega)) hP hD hS hl9
                            · exact absurd (by decide) c_414
                      · have c_389 : (eCr n X Y i px.toInt py.toInt) = 0 := zc_eq (iI_toInt (by omega)) (by decide) c_389
                        refine lv_aload_n hx hb dX7_where_162 rfl (lv_at hl 4 rfl) ?_
                        refine va_get (D := (dC, dI)) (ci := 6) (v := .ref rx) (C := RX7) (T := TX7) (N := 4) hx hb hts inX7 hown hK hP 0 rfl rfl 0 (by decide) (hts _ mw_161) (fun _ h9 => h9) rfl dX7_where_163 ?_
                        refine lv_iload hx hb dX7_where_166 (lv_at hl 2 rfl) ?_
                        refine z_iald hx hb hK hP 1 0 rfl rfl (e := i) rfl (by omega) (by omega) dX7_where_168 ?_
                        refine lv_iload_n hx hb dX7_where_169 rfl (lv_at hl 5 rfl) ?_
                        refine lv_icmp_le (tgt := 184) hx hb dX7_where_170 (by decide) (fun c_415 => ?_) (fun c_415 => ?_)
                        · have c_415 : (X i).toInt ≤ px.toInt := zc_le rfl rfl c_415
                          refine lv_iconst (v := 2) hx hb dX7_where_184 (by decide) ?_
                          have hP9 := hP.sub (ws' := [(r, .inr (6, [.ref rx, .ref ry, .int (nI n), .int rg])), (rx, .inl (cI, cap, .inl X)), (ry, .inl (cI, cap, .inl Y))]) [0, 1, 2] rfl
                          have hD9 := hD.sub (ws' := [(r, .inr (6, [.ref rx, .ref ry, .int (nI n), .int rg])), (rx, .inl (cI, cap, .inl X)), (ry, .inl (cI, cap, .inl Y))]) [0, 1, 2] (by decide) rfl
                          rw [hQ9]
                          exact W.iret (v := 2) hx hb hr (fun t ht hW => ⟨⟨congrArg (fun z => Outcome.returned (some (Value.int z))) (show (2 : Int32) = whr n X Y px.toInt py.toInt from (whr_2 ⟨i, by omega, by unfold eOn onS; unfold eCr at *; omega⟩).symm), by rw [ht]; exact hP9, hD9⟩, hS.F ht⟩) hS.2.2 dX7_where_185
                        · have c_415 : px.toInt < (X i).toInt := zc_nle rfl rfl c_415
                          refine lv_aload_n hx hb dX7_where_173 rfl (lv_at hl 4 rfl) ?_
                          refine va_get (D := (dC, dI)) (ci := 6) (v := .ref rx) (C := RX7) (T := TX7) (N := 4) hx hb hts inX7 hown hK hP 0 rfl rfl 0 (by decide) (hts _ mw_161) (fun _ h9 => h9) rfl dX7_where_174 ?_
                          refine lv_iload hx hb dX7_where_177 (lv_at hl 1 rfl) ?_
                          refine z_iald hx hb hK hP 1 0 rfl rfl (e := nxt n i) rfl (by omega) (by omega) dX7_where_179 ?_
                          refine lv_iload_n hx hb dX7_where_180 rfl (lv_at hl 5 rfl) ?_
                          refine lv_icmp_gt (tgt := 186) hx hb dX7_where_181 (by decide) (fun c_416 => ?_) (fun c_416 => ?_)
                          · have c_416 : px.toInt < (X (nxt n i)).toInt := zc_lt rfl rfl c_416
                            refine lv_aload_n hx hb dX7_where_186 rfl (lv_at hl 4 rfl) ?_
                            refine va_get (D := (dC, dI)) (ci := 6) (v := .ref ry) (C := RX7) (T := TX7) (N := 4) hx hb hts inX7 hown hK hP 0 rfl rfl 1 (by decide) (hts _ mw_168) (fun _ h9 => h9) rfl dX7_where_187 ?_
                            refine lv_iload hx hb dX7_where_190 (lv_at hl 2 rfl) ?_
                            refine z_iald hx hb hK hP 2 0 rfl rfl (e := i) rfl (by omega) (by omega) dX7_where_192 ?_
                            refine lv_iload_n hx hb dX7_where_193 rfl (lv_at hl 6 rfl) ?_
                            refine lv_icmp_le (tgt := 201) hx hb dX7_where_194 (by decide) (fun c_417 => ?_) (fun c_417 => ?_)
                            · have c_417 : (Y i).toInt ≤ py.toInt := zc_le rfl rfl c_417
                              refine lv_iconst (v := 0) hx hb dX7_where_201 (by decide) ?_
                              refine lv_aload_n hx hb dX7_where_202 rfl (lv_at hl 4 rfl) ?_
                              refine va_get (D := (dC, dI)) (ci := 6) (v := .ref ry) (C := RX7) (T := TX7) (N := 4) hx hb hts inX7 hown hK hP 0 rfl rfl 1 (by decide) (hts _ mw_168) (fun _ h9 => h9) rfl dX7_where_203 ?_
                              refine lv_iload hx hb dX7_where_206 (lv_at hl 1 rfl) ?_
                              refine z_iald hx hb hK hP 2 0 rfl rfl (e := nxt n i) rfl (by omega) (by omega) dX7_where_208 ?_
                              refine lv_iload_n hx hb dX7_where_209 rfl (lv_at hl 6 rfl) ?_
                              refine lv_icmp_le (tgt := 217) hx hb dX7_where_210 (by decide) (fun c_418 => ?_) (fun c_418 => ?_)
                              · have c_418 : (Y (nxt n i)).toInt ≤ py.toInt := zc_le rfl rfl c_418
                                refine lv_iconst (v := 0) hx hb dX7_where_217 (by decide) ?_
                                refine lv_icmp_eq (tgt := 266) hx hb dX7_where_218 (by decide) (fun c_419 => ?_) (fun c_419 => ?_)
                                · have c_419 : 0 = 0 := zc_eq (by decide) (by decide) c_419
                                  refine lv_iinc (v := nI (i + 1)) (lv' := [(4, .int (nI (i + 1))), (6, .int (iI (eCr n X Y i px.toInt py.toInt))), (5, .int (nI (nxt n i))), (3, .int (pI (par2 (eTg n X Y px.toInt py.toInt) i))), (0, .ref r), (1, .int px), (2, .int py)]) hx hb dX7_where_266 hl (k := 2) rfl (nI_add i 1) (by decide) rfl (fun ls hl => ?_)
                                  refine lv_goto (tgt := 5) hx hb dX7_where_269 (by decide) ?_
                                  have hl9 := lv_sub hl [0, 3, 4, 5, 6] rfl
                                  have e9_3 : pI (par2 (eTg n X Y px.toInt py.toInt) (i + 1)) = (pI (par2 (eTg n X Y px.toInt py.toInt) i) : Int32) := by first | exact zp_iff (par2_n (sk_tg (by omega)).1) | exact zp_iff (par2_n (by unfold eTg; omega)) | exact zp_t ((par2_y (by unfold eTg; omega)).mpr (by assumption)) | exact zp_f (fun q => (par2_y (by unfold eTg; omega)).mp q (by assumption))
                                  have hl9 : lv_has ls 7 [(4, .int (nI (i + 1))), (3, .int (pI (par2 (eTg n X Y px.toInt py.toInt) (i + 1)))), (0, .ref r), (1, .int px), (2, .int py)] := by rw [e9_3]; exact hl9
                                  exact ih_5 (i + 1) H locs ls (by omega) (by omega) (by intro k hk; rcases Nat.lt_or_ge k i with h | h; exact hno k h; have e9 : k = i := (by omega); subst e9; first | exact (sk_tg (by omega)).2 | (unfold eOn onS; unfold eCr at *; omega)) hP hD hS hl9
                                · exact absurd (by decide) c_419
                              · have c_418 : py.toInt < (Y (nxt n i)).toInt := zc_nle rfl rfl c_418
                                refine lv_iconst (v := 1) hx hb dX7_where_213 (by decide) ?_
                                refine lv_goto (tgt := 218) hx hb dX7_where_214 (by decide) ?_
                                refine lv_icmp_eq (tgt := 266) hx hb dX7_where_218 (by decide) (fun c_420 => ?_) (fun c_420 => ?_)
                                · exact absurd c_420 (by decide)
                                · have c_420 : ¬ 0 = 1 := zc_ne (by decide) (by decide) c_420
                                  refine lv_iload hx hb dX7_where_221 (lv_at hl 0 rfl) ?_
                                  refine lv_if_le (tgt := 230) hx hb dX7_where_223 (by decide) (fun c_421 => ?_) (fun c_421 => ?_)
                                  · have c_421 : (eCr n X Y i px.toInt py.toInt) ≤ 0 := zc_le (iI_toInt (by omega)) (by decide) c_421
                                    refine lv_iconst (v := 0) hx hb dX7_where_230 (by decide) ?_
                                    refine lv_aload_n hx hb dX7_where_231 rfl (lv_at hl 4 rfl) ?_
                                    refine va_get (D := (dC, dI)) (ci := 6) (v := .ref ry) (C := RX7) (T := TX7) (N := 4) hx hb hts inX7 hown hK hP 0 rfl rfl 1 (by decide) (hts _ mw_168) (fun _ h9 => h9) rfl dX7_where_232 ?_
                                    refine lv_iload hx hb dX7_where_235 (lv_at hl 1 rfl) ?_
                                    refine z_iald hx hb hK hP 2 0 rfl rfl (e := nxt n i) rfl (by omega) (by omega) dX7_where_237 ?_
                                    refine lv_aload_n hx hb dX7_where_238 rfl (lv_at hl 4 rfl) ?_
                                    refine va_get (D := (dC, dI)) (ci := 6) (v := .ref ry) (C := RX7) (T := TX7) (N := 4) hx hb hts inX7 hown hK hP 0 rfl rfl 1 (by decide) (hts _ mw_168) (fun _ h9 => h9) rfl dX7_where_239 ?_
                                    refine lv_iload hx hb dX7_where_242 (lv_at hl 2 rfl) ?_
                                    refine z_iald hx hb hK hP 2 0 rfl rfl (e := i) rfl (by omega) (by omega) dX7_where_244 ?_
                                    refine lv_icmp_le (tgt := 252) hx hb dX7_where_245 (by decide) (fun c_422 => ?_) (fun c_422 => ?_)
                                    · have c_422 : (Y (nxt n i)).toInt ≤ (Y i).toInt := zc_le rfl rfl c_422
                                      refine lv_iconst (v := 0) hx hb dX7_where_252 (by decide) ?_
                                      refine lv_icmp_ne (tgt := 266) hx hb dX7_where_253 (by decide) (fun c_423 => ?_) (fun c_423 => ?_)
                                      · exact absurd (by decide) c_423
                                      · have c_423 : 0 = 0 := zc_eq (by decide) (by decide) c_423
                                        refine lv_iload_n hx hb dX7_where_256 rfl (lv_at hl 3 rfl) ?_
                                        refine lv_if_ne (tgt := 264) hx hb dX7_where_257 (by decide) (fun c_424 => ?_) (fun c_424 => ?_)
                                        · have c_424 : par2 (eTg n X Y px.toInt py.toInt) i := zp_1 c_424
                                          refine lv_iconst (v := 0) hx hb dX7_where_264 (by decide) ?_
                                          refine lv_istore_n (lv' := [(3, .int 0), (6, .int (iI (eCr n X Y i px.toInt py.toInt))), (5, .int (nI (nxt n i))), (4, .int (nI i)), (0, .ref r), (1, .int px), (2, .int py)]) hx hb dX7_where_265 rfl hl (by decide) rfl (fun ls hl => ?_)
                                          refine lv_iinc (v := nI (i + 1)) (lv' := [(4, .int (nI (i + 1))), (3, .int 0), (6, .int (iI (eCr n X Y i px.toInt py.toInt))), (5, .int (nI (nxt n i))), (0, .ref r), (1, .int px), (2, .int py)]) hx hb dX7_where_266 hl (k := 3) rfl (nI_add i 1) (by decide) rfl (fun ls hl => ?_)
                                          refine lv_goto (tgt := 5) hx hb dX7_where_269 (by decide) ?_
                                          have hl9 := lv_sub hl [0, 1, 4, 5, 6] rfl
                                          have e9_3 : pI (par2 (eTg n X Y px.toInt py.toInt) (i + 1)) = (0 : Int32) := by first | exact zp_iff (par2_n (sk_tg (by omega)).1) | exact zp_iff (par2_n (by unfold eTg; omega)) | exact zp_t ((par2_y (by unfold eTg; omega)).mpr (by assumption)) | exact zp_f (fun q => (par2_y (by unfold eTg; omega)).mp q (by assumption))
                                          have hl9 : lv_has ls 7 [(4, .int (nI (i + 1))), (3, .int (pI (par2 (eTg n X Y px.toInt py.toInt) (i + 1)))), (0, .ref r), (1, .int px), (2, .int py)] := by rw [e9_3]; exact hl9
                                          exact ih_5 (i + 1) H locs ls (by omega) (by omega) (by intro k hk; rcases Nat.lt_or_ge k i with h | h; exact hno k h; have e9 : k = i := (by omega); subst e9; first | exact (sk_tg (by omega)).2 | (unfold eOn onS; unfold eCr at *; omega)) hP hD hS hl9
                                        · have c_424 : ¬ (par2 (eTg n X Y px.toInt py.toInt) i) := zp_0 c_424
                                          refine lv_iconst (v := 1) hx hb dX7_where_260 (by decide) ?_
                                          refine lv_goto (tgt := 265) hx hb dX7_where_261 (by decide) ?_
                                          refine lv_istore_n (lv' := [(3, .int 1), (6, .int (iI (eCr n X Y i px.toInt py.toInt))), (5, .int (nI (nxt n i))), (4, .int (nI i)), (0, .ref r), (1, .int px), (2, .int py)]) hx hb dX7_where_265 rfl hl (by decide) rfl (fun ls hl => ?_)
                                          refine lv_iinc (v := nI (i + 1)) (lv' := [(4, .int (nI (i + 1))), (3, .int 1), (6, .int (iI (eCr n X Y i px.toInt py.toInt))), (5, .int (nI (nxt n i))), (0, .ref r), (1, .int px), (2, .int py)]) hx hb dX7_where_266 hl (k := 3) rfl (nI_add i 1) (by decide) rfl (fun ls hl => ?_)
                                          refine lv_goto (tgt := 5) hx hb dX7_where_269 (by decide) ?_
                                          have hl9 := lv_sub hl [0, 1, 4, 5, 6] rfl
                                          have e9_3 : pI (par2 (eTg n X Y px.toInt py.toInt) (i + 1)) = (1 : Int32) := by first | exact zp_iff (par2_n (sk_tg (by omega)).1) | exact zp_iff (par2_n (by unfold eTg; omega)) | exact zp_t ((par2_y (by unfold eTg; omega)).mpr (by assumption)) | exact zp_f (fun q => (par2_y (by unfold eTg; omega)).mp q (by assumption))
                                          have hl9 : lv_has ls 7 [(4, .int (nI (i + 1))), (3, .int (pI (par2 (eTg n X Y px.toInt py.toInt) (i + 1)))), (0, .ref r), (1, .int px), (2, .int py)] := by rw [e9_3]; exact hl9
                                          exact ih_5 (i + 1) H locs ls (by omega) (by omega) (by intro k hk; rcases Nat.lt_or_ge k i with h | h; exact hno k h; have e9 : k = i := (by omega); subst e9; first | exact (sk_tg (by omega)).2 | (unfold eOn onS; unfold eCr at *; omega)) hP hD hS hl9
                                    · have c_422 : (Y i).toInt < (Y (nxt n i)).toInt := zc_nle rfl rfl c_422
                                      refine lv_iconst (v := 1) hx hb dX7_where_248 (by decide) ?_
                                      refine lv_goto (tgt := 253) hx hb dX7_where_249 (by decide) ?_
                                      refine lv_icmp_ne (tgt := 266) hx hb dX7_where_253 (by decide) (fun c_425 => ?_) (fun c_425 => ?_)
                                      · have c_425 : ¬ 0 = 1 := zc_ne (by decide) (by decide) c_425
                                        refine lv_iinc (v := nI (i + 1)) (lv' := [(4, .int (nI (i + 1))), (6, .int (iI (eCr n X Y i px.toInt py.toInt))), (5, .int (nI (nxt n i))), (3, .int (pI (par2 (eTg n X Y px.toInt py.toInt) i))), (0, .ref r), (1, .int px), (2, .int py)]) hx hb dX7_where_266 hl (k := 2) rfl (nI_add i 1) (by decide) rfl (fun ls hl => ?_)
                                        refine lv_goto (tgt := 5) hx hb dX7_where_269 (by decide) ?_
                                        have hl9 := lv_sub hl [0, 3, 4, 5, 6] rfl
                                        have e9_3 : pI (par2 (eTg n X Y px.toInt py.toInt) (i + 1)) = (pI (par2 (eTg n X Y px.toInt py.toInt) i) : Int32) := by first | exact zp_iff (par2_n (sk_tg (by omega)).1) | exact zp_iff (par2_n (by unfold eTg; omega)) | exact zp_t ((par2_y (by unfold eTg; omega)).mpr (by assumption)) | exact zp_f (fun q => (par2_y (by unfold eTg; omega)).mp q (by assumption))
                                        have hl9 : lv_has ls 7 [(4, .int (nI (i + 1))), (3, .int (pI (par2 (eTg n X Y px.toInt py.toInt) (i + 1)))), (0, .ref r), (1, .int px), (2, .int py)] := by rw [e9_3]; exact hl9
                                        exact ih_5 (i + 1) H locs ls (by omega) (by omega) (by intro k hk; rcases Nat.lt_or_ge k i with h | h; exact hno k h; have e9 : k = i := (by omega); subst e9; first | exact (sk_tg (by omega)).2 | (unfold eOn onS; unfold eCr at *; omega)) hP hD hS hl9
                                      · exact absurd c_425 (by decide)
                                  · have c_421 : 0 < (eCr n X Y i px.toInt py.toInt) := zc_nle (iI_toInt (by omega)) (by decide) c_421
                                    refine lv_iconst (v := 1) hx hb dX7_where_226 (by decide) ?_
                                    refine lv_goto (tgt := 231) hx hb dX7_where_227 (by decide) ?_
                                    refine lv_aload_n hx hb dX7_where_231 rfl (lv_at hl 4 rfl) ?_
                                    refine va_get (D := (dC, dI)) (ci := 6) (v := .ref ry) (C := RX7) (T := TX7) (N := 4) hx hb hts inX7 hown hK hP 0 rfl rfl 1 (by decide) (hts _ mw_168) (fun _ h9 => h9) rfl dX7_where_232 ?_
                                    refine lv_iload hx hb dX7_where_235 (lv_at hl 1 rfl) ?_
                                    refine z_iald hx hb hK hP 2 0 rfl rfl (e := nxt n i) rfl (by omega) (by omega) dX7_where_237 ?_
                                    refine lv_aload_n hx hb dX7_where_238 rfl (lv_at hl 4 rfl) ?_
                                    refine va_get (D := (dC, dI)) (ci := 6) (v := .ref ry) (C := RX7) (T := TX7) (N := 4) hx hb hts inX7 hown hK hP 0 rfl rfl 1 (by decide) (hts _ mw_168) (fun _ h9 => h9) rfl dX7_where_239 ?_
                                    refine lv_iload hx hb dX7_where_242 (lv_at hl 2 rfl) ?_
                                    refine z_iald hx hb hK hP 2 0 rfl rfl (e := i) rfl (by omega) (by omega) dX7_where_244 ?_
                                    refine lv_icmp_le (tgt := 252) hx hb dX7_where_245 (by decide) (fun c_426 => ?_) (fun c_426 => ?_)
                                    · have c_426 : (Y (nxt n i)).toInt ≤ (Y i).toInt := zc_le rfl rfl c_426
                                      refine lv_iconst (v := 0) hx hb dX7_where_252 (by decide) ?_
                                      refine lv_icmp_ne (tgt := 266) hx hb dX7_where_253 (by decide) (fun c_427 => ?_) (fun c_427 => ?_)
                                      · have c_427 : ¬ 1 = 0 := zc_ne (by decide) (by decide) c_427
                                        refine lv_iinc (v := nI (i + 1)) (lv' := [(4, .int (nI (i + 1))), (6, .int (iI (eCr n X Y i px.toInt py.toInt))), (5, .int (nI (nxt n i))), (3, .int (pI (par2 (eTg n X Y px.toInt py.toInt) i))), (0, .ref r), (1, .int px), (2, .int py)]) hx hb dX7_where_266 hl (k := 2) rfl (nI_add i 1) (by decide) rfl (fun ls hl => ?_)
                                        refine lv_goto (tgt := 5) hx hb dX7_where_269 (by decide) ?_
                                        have hl9 := lv_sub hl [0, 3, 4, 5, 6] rfl
                                        have e9_3 : pI (par2 (eTg n X Y px.toInt py.toInt) (i + 1)) = (pI (par2 (eTg n X Y px.toInt py.toInt) i) : Int32) := by first | exact zp_iff (par2_n (sk_tg (by omega)).1) | exact zp_iff (par2_n (by unfold eTg; omega)) | exact zp_t ((par2_y (by unfold eTg; omega)).mpr (by assumption)) | exact zp_f (fun q => (par2_y (by unfold eTg; omega)).mp q (by assumption))
                                        have hl9 : lv_has ls 7 [(4, .int (nI (i + 1))), (3, .int (pI (par2 (eTg n X Y px.toInt py.toInt) (i + 1)))), (0, .ref r), (1, .int px), (2, .int py)] := by rw [e9_3]; exact hl9
                                        exact ih_5 (i + 1) H locs ls (by omega) (by omega) (by intro k hk; rcases Nat.lt_or_ge k i with h | h; exact hno k h; have e9 : k = i := (by omega); subst e9; first | exact (sk_tg (by omega)).2 | (unfold eOn onS; unfold eCr at *; omega)) hP hD hS hl9
                                      · exact absurd c_427 (by decide)
                                    · have c_426 : (Y i).toInt < (Y (nxt n i)).toInt := zc_nle rfl rfl c_426
                                      refine lv_iconst (v := 1) hx hb dX7_where_248 (by decide) ?_
                                      refine lv_goto (tgt := 253) hx hb dX7_where_249 (by decide) ?_
                                      refine lv_icmp_ne (tgt := 266) hx hb dX7_where_253 (by decide) (fun c_428 => ?_) (fun c_428 => ?_)
                                      · exact absurd (by decide) c_428
                                      · have c_428 : 1 = 1 := zc_eq (by decide) (by decide) c_428
                                        refine lv_iload_n hx hb dX7_where_256 rfl (lv_at hl 3 rfl) ?_
                                        refine lv_if_ne (tgt := 264) hx hb dX7_where_257 (by decide) (fun c_429 => ?_) (fun c_429 => ?_)
                                        · have c_429 : par2 (eTg n X Y px.toInt py.toInt) i := zp_1 c_429
                                          refine lv_iconst (v := 0) hx hb dX7_where_264 (by decide) ?_
                                          refine lv_istore_n (lv' := [(3, .int 0), (6, .int (iI (eCr n X Y i px.toInt py.toInt))), (5, .int (nI (nxt n i))), (4, .int (nI i)), (0, .ref r), (1, .int px), (2, .int py)]) hx hb dX7_where_265 rfl hl (by decide) rfl (fun ls hl => ?_)
                                          refine lv_iinc (v := nI (i + 1)) (lv' := [(4, .int (nI (i + 1))), (3, .int 0), (6, .int (iI (eCr n X Y i px.toInt py.toInt))), (5, .int (nI (nxt n i))), (0, .ref r), (1, .int px), (2, .int py)]) hx hb dX7_where_266 hl (k := 3) rfl (nI_add i 1) (by decide) rfl (fun ls hl => ?_)
                                          refine lv_goto (tgt := 5) hx hb dX7_where_269 (by decide) ?_
                                          have hl9 := lv_sub hl [0, 1, 4, 5, 6] rfl
                                          have e9_3 : pI (par2 (eTg n X Y px.toInt py.toInt) (i + 1)) = (0 : Int32) := by first | exact zp_iff (par2_n (sk_tg (by omega)).1) | exact zp_iff (par2_n (by unfold eTg; omega)) | exact zp_t ((par2_y (by unfold eTg; omega)).mpr (by assumption)) | exact zp_f (fun q => (par2_y (by unfold eTg; omega)).mp q (by assumption))
                                          have hl9 : lv_has ls 7 [(4, .int (nI (i + 1))), (3, .int (pI (par2 (eTg n X Y px.toInt py.toInt) (i + 1)))), (0, .ref r), (1, .int px), (2, .int py)] := by rw [e9_3]; exact hl9
                                          exact ih_5 (i + 1) H locs ls (by omega) (by omega) (by intro k hk; rcases Nat.lt_or_ge k i with h | h; exact hno k h; have e9 : k = i := (by omega); subst e9; first | exact (sk_tg (by omega)).2 | (unfold eOn onS; unfold eCr at *; omega)) hP hD hS hl9
                                        · have c_429 : ¬ (par2 (eTg n X Y px.toInt py.toInt) i) := zp_0 c_429
                                          refine lv_iconst (v := 1) hx hb dX7_where_260 (by decide) ?_
                                          refine lv_goto (tgt := 265) hx hb dX7_where_261 (by decide) ?_
                                          refine lv_istore_n (lv' := [(3, .int 1), (6, .int (iI (eCr n X Y i px.toInt py.toInt))), (5, .int (nI (nxt n i))), (4, .int (nI i)), (0, .ref r), (1, .int px), (2, .int py)]) hx hb dX7_where_265 rfl hl (by decide) rfl (fun ls hl => ?_)
                                          refine lv_iinc (v := nI (i + 1)) (lv' := [(4, .int (nI (i + 1))), (3, .int 1), (6, .int (iI (eCr n X Y i px.toInt py.toInt))), (5, .int (nI (nxt n i))), (0, .ref r), (1, .int px), (2, .int py)]) hx hb dX7_where_266 hl (k := 3) rfl (nI_add i 1) (by decide) rfl (fun ls hl => ?_)
                                          refine lv_goto (tgt := 5) hx hb dX7_where_269 (by decide) ?_
                                          have hl9 := lv_sub hl [0, 1, 4, 5, 6] rfl
                                          have e9_3 : pI (par2 (eTg n X Y px.toInt py.toInt) (i + 1)) = (1 : Int32) := by first | exact zp_iff (par2_n (sk_tg (by omega)).1) | exact zp_iff (par2_n (by unfold eTg; omega)) | exact zp_t ((par2_y (by unfold eTg; omega)).mpr (by assumption)) | exact zp_f (fun q => (par2_y (by unfold eTg; omega)).mp q (by assumption))
                                          have hl9 : lv_has ls 7 [(4, .int (nI (i + 1))), (3, .int (pI (par2 (eTg n X Y px.toInt py.toInt) (i + 1)))), (0, .ref r), (1, .int px), (2, .int py)] := by rw [e9_3]; exact hl9
                                          exact ih_5 (i + 1) H locs ls (by omega) (by omega) (by intro k hk; rcases Nat.lt_or_ge k i with h | h; exact hno k h; have e9 : k = i := (by omega); subst e9; first | exact (sk_tg (by omega)).2 | (unfold eOn onS; unfold eCr at *; omega)) hP hD hS hl9
                            · have c_417 : py.toInt < (Y i).toInt := zc_nle rfl rfl c_417
                              refine lv_iconst (v := 1) hx hb dX7_where_197 (by decide) ?_
                              refine lv_goto (tgt := 202) hx hb dX7_where_198 (by decide) ?_
                              refine lv_aload_n hx hb dX7_where_202 rfl (lv_at hl 4 rfl) ?_
                              refine va_get (D := (dC, dI)) (ci := 6) (v := .ref ry) (C := RX7) (T := TX7) (N := 4) hx hb hts inX7 hown hK hP 0 rfl rfl 1 (by decide) (hts _ mw_168) (fun _ h9 => h9) rfl dX7_where_203 ?_
                              refine lv_iload hx hb dX7_where_206 (lv_at hl 1 rfl) ?_
                              refine z_iald hx hb hK hP 2 0 rfl rfl (e := nxt n i) rfl (by omega) (by omega) dX7_where_208 ?_
                              refine lv_iload_n hx hb dX7_where_209 rfl (lv_at hl 6 rfl) ?_
                              refine lv_icmp_le (tgt := 217) hx hb dX7_where_210 (by decide) (fun c_430 => ?_) (fun c_430 => ?_)
                              · have c_430 : (Y (nxt n i)).toInt ≤ py.toInt := zc_le rfl rfl c_430
                                refine lv_iconst (v := 0) hx hb dX7_where_217 (by decide) ?_
                                refine lv_icmp_eq (tgt := 266) hx hb dX7_where_218 (by decide) (fun c_431 => ?_) (fun c_431 => ?_)
                                · exact absurd c_431 (by decide)
                                · have c_431 : ¬ 1 = 0 := zc_ne (by decide) (by decide) c_431
                                  refine lv_iload hx hb dX7_where_221 (lv_at hl 0 rfl) ?_
                                  refine lv_if_le (tgt := 230) hx hb dX7_where_223 (by decide) (fun c_432 => ?_) (fun c_432 => ?_)
                                  · have c_432 : (eCr n X Y i px.toInt py.toInt) ≤ 0 := zc_le (iI_toInt (by omega)) (by decide) c_432
                                    refine lv_iconst (v := 0) hx hb dX7_where_230 (by decide) ?_
                                    refine lv_aload_n hx hb dX7_where_231 rfl (lv_at hl 4 rfl) ?_
                                    refine va_get (D := (dC, dI)) (ci := 6) (v := .ref ry) (C := RX7) (T := TX7) (N := 4) hx hb hts inX7 hown hK hP 0 rfl rfl 1 (by decide) (hts _ mw_168) (fun _ h9 => h9) rfl dX7_where_232 ?_
                                    refine lv_iload hx hb dX7_where_235 (lv_at hl 1 rfl) ?_
                                    refine z_iald hx hb hK hP 2 0 rfl rfl (e := nxt n i) rfl (by omega) (by omega) dX7_where_237 ?_
                                    refine lv_aload_n hx hb dX7_where_238 rfl (lv_at hl 4 rfl) ?_
                                    refine va_get (D := (dC, dI)) (ci := 6) (v := .ref ry) (C := RX7) (T := TX7) (N := 4) hx hb hts inX7 hown hK hP 0 rfl rfl 1 (by decide) (hts _ mw_168) (fun _ h9 => h9) rfl dX7_where_239 ?_
                                    refine lv_iload hx hb dX7_where_242 (lv_at hl 2 rfl) ?_
                                    refine z_iald hx hb hK hP 2 0 rfl rfl (e := i) rfl (by omega) (by omega) dX7_where_244 ?_
                                    refine lv_icmp_le (tgt := 252) hx hb dX7_where_245 (by decide) (fun c_433 => ?_) (fun c_433 => ?_)
                                    · have c_433 : (Y (nxt n i)).toInt ≤ (Y i).toInt := zc_le rfl rfl c_433
                                      refine lv_iconst (v := 0) hx hb dX7_where_252 (by decide) ?_
                                      refine lv_icmp_ne (tgt := 266) hx hb dX7_where_253 (by decide) (fun c_434 => ?_) (fun c_434 => ?_)
                                      · exact absurd (by decide) c_434
                                      · have c_434 : 0 = 0 := zc_eq (by decide) (by decide) c_434
                                        refine lv_iload_n hx hb dX7_where_256 rfl (lv_at hl 3 rfl) ?_
                                        refine lv_if_ne (tgt := 264) hx hb dX7_where_257 (by decide) (fun c_435 => ?_) (fun c_435 => ?_)
                                        · have c_435 : par2 (eTg n X Y px.toInt py.toInt) i := zp_1 c_435
                                          refine lv_iconst (v := 0) hx hb dX7_where_264 (by decide) ?_
                                          refine lv_istore_n (lv' := [(3, .int 0), (6, .int (iI (eCr n X Y i px.toInt py.toInt))), (5, .int (nI (nxt n i))), (4, .int (nI i)), (0, .ref r), (1, .int px), (2, .int py)]) hx hb dX7_where_265 rfl hl (by decide) rfl (fun ls hl => ?_)
                                          refine lv_iinc (v := nI (i + 1)) (lv' := [(4, .int (nI (i + 1))), (3, .int 0), (6, .int (iI (eCr n X Y i px.toInt py.toInt))), (5, .int (nI (nxt n i))), (0, .ref r), (1, .int px), (2, .int py)]) hx hb dX7_where_266 hl (k := 3) rfl (nI_add i 1) (by decide) rfl (fun ls hl => ?_)
                                          refine lv_goto (tgt := 5) hx hb dX7_where_269 (by decide) ?_
                                          have hl9 := lv_sub hl [0, 1, 4, 5, 6] rfl
                                          have e9_3 : pI (par2 (eTg n X Y px.toInt py.toInt) (i + 1)) = (0 : Int32) := by first | exact zp_iff (par2_n (sk_tg (by omega)).1) | exact zp_iff (par2_n (by unfold eTg; omega)) | exact zp_t ((par2_y (by unfold eTg; omega)).mpr (by assumption)) | exact zp_f (fun q => (par2_y (by unfold eTg; omega)).mp q (by assumption))
                                          have hl9 : lv_has ls 7 [(4, .int (nI (i + 1))), (3, .int (pI (par2 (eTg n X Y px.toInt py.toInt) (i + 1)))), (0, .ref r), (1, .int px), (2, .int py)] := by rw [e9_3]; exact hl9
                                          exact ih_5 (i + 1) H locs ls (by omega) (by omega) (by intro k hk; rcases Nat.lt_or_ge k i with h | h; exact hno k h; have e9 : k = i := (by omega); subst e9; first | exact (sk_tg (by omega)).2 | (unfold eOn onS; unfold eCr at *; omega)) hP hD hS hl9
                                        · have c_435 : ¬ (par2 (eTg n X Y px.toInt py.toInt) i) := zp_0 c_435
                                          refine lv_iconst (v := 1) hx hb dX7_where_260 (by decide) ?_
                                          refine lv_goto (tgt := 265) hx hb dX7_where_261 (by decide) ?_
                                          refine lv_istore_n (lv' := [(3, .int 1), (6, .int (iI (eCr n X Y i px.toInt py.toInt))), (5, .int (nI (nxt n i))), (4, .int (nI i)), (0, .ref r), (1, .int px), (2, .int py)]) hx hb dX7_where_265 rfl hl (by decide) rfl (fun ls hl => ?_)
                                          refine lv_iinc (v := nI (i + 1)) (lv' := [(4, .int (nI (i + 1))), (3, .int 1), (6, .int (iI (eCr n X Y i px.toInt py.toInt))), (5, .int (nI (nxt n i))), (0, .ref r), (1, .int px), (2, .int py)]) hx hb dX7_where_266 hl (k := 3) rfl (nI_add i 1) (by decide) rfl (fun ls hl => ?_)
                                          refine lv_goto (tgt := 5) hx hb dX7_where_269 (by decide) ?_
                                          have hl9 := lv_sub hl [0, 1, 4, 5, 6] rfl
                                          have e9_3 : pI (par2 (eTg n X Y px.toInt py.toInt) (i + 1)) = (1 : Int32) := by first | exact zp_iff (par2_n (sk_tg (by omega)).1) | exact zp_iff (par2_n (by unfold eTg; omega)) | exact zp_t ((par2_y (by unfold eTg; omega)).mpr (by assumption)) | exact zp_f (fun q => (par2_y (by unfold eTg; omega)).mp q (by assumption))
                                          have hl9 : lv_has ls 7 [(4, .int (nI (i + 1))), (3, .int (pI (par2 (eTg n X Y px.toInt py.toInt) (i + 1)))), (0, .ref r), (1, .int px), (2, .int py)] := by rw [e9_3]; exact hl9
                                          exact ih_5 (i + 1) H locs ls (by omega) (by omega) (by intro k hk; rcases Nat.lt_or_ge k i with h | h; exact hno k h; have e9 : k = i := (by omega); subst e9; first | exact (sk_tg (by omega)).2 | (unfold eOn onS; unfold eCr at *; omega)) hP hD hS hl9
                                    · have c_433 : (Y i).toInt < (Y (nxt n i)).toInt := zc_nle rfl rfl c_433
                                      refine lv_iconst (v := 1) hx hb dX7_where_248 (by decide) ?_
                                      refine lv_goto (tgt := 253) hx hb dX7_where_249 (by decide) ?_
                                      refine lv_icmp_ne (tgt := 266) hx hb dX7_where_253 (by decide) (fun c_436 => ?_) (fun c_436 => ?_)
                                      · have c_436 : ¬ 0 = 1 := zc_ne (by decide) (by decide) c_436
                                        refine lv_iinc (v := nI (i + 1)) (lv' := [(4, .int (nI (i + 1))), (6, .int (iI (eCr n X Y i px.toInt py.toInt))), (5, .int (nI (nxt n i))), (3, .int (pI (par2 (eTg n X Y px.toInt py.toInt) i))), (0, .ref r), (1, .int px), (2, .int py)]) hx hb dX7_where_266 hl (k := 2) rfl (nI_add i 1) (by decide) rfl (fun ls hl => ?_)
                                        refine lv_goto (tgt := 5) hx hb dX7_where_269 (by decide) ?_
                                        have hl9 := lv_sub hl [0, 3, 4, 5, 6] rfl
                                        have e9_3 : pI (par2 (eTg n X Y px.toInt py.toInt) (i + 1)) = (pI (par2 (eTg n X Y px.toInt py.toInt) i) : Int32) := by first | exact zp_iff (par2_n (sk_tg (by omega)).1) | exact zp_iff (par2_n (by unfold eTg; omega)) | exact zp_t ((par2_y (by unfold eTg; omega)).mpr (by assumption)) | exact zp_f (fun q => (par2_y (by unfold eTg; omega)).mp q (by assumption))
                                        have hl9 : lv_has ls 7 [(4, .int (nI (i + 1))), (3, .int (pI (par2 (eTg n X Y px.toInt py.toInt) (i + 1)))), (0, .ref r), (1, .int px), (2, .int py)] := by rw [e9_3]; exact hl9
                                        exact ih_5 (i + 1) H locs ls (by omega) (by omega) (by intro k hk; rcases Nat.lt_or_ge k i with h | h; exact hno k h; have e9 : k = i := (by omega); subst e9; first | exact (sk_tg (by omega)).2 | (unfold eOn onS; unfold eCr at *; omega)) hP hD hS hl9
                                      · exact absurd c_436 (by decide)
                                  · have c_432 : 0 < (eCr n X Y i px.toInt py.toInt) := zc_nle (iI_toInt (by omega)) (by decide) c_432
                                    refine lv_iconst (v := 1) hx hb dX7_where_226 (by decide) ?_
                                    refine lv_goto (tgt := 231) hx hb dX7_where_227 (by decide) ?_
                                    refine lv_aload_n hx hb dX7_where_231 rfl (lv_at hl 4 rfl) ?_
                                    refine va_get (D := (dC, dI)) (ci := 6) (v := .ref ry) (C := RX7) (T := TX7) (N := 4) hx hb hts inX7 hown hK hP 0 rfl rfl 1 (by decide) (hts _ mw_168) (fun _ h9 => h9) rfl dX7_where_232 ?_
                                    refine lv_iload hx hb dX7_where_235 (lv_at hl 1 rfl) ?_
                                    refine z_iald hx hb hK hP 2 0 rfl rfl (e := nxt n i) rfl (by omega) (by omega) dX7_where_237 ?_
                                    refine lv_aload_n hx hb dX7_where_238 rfl (lv_at hl 4 rfl) ?_
                                    refine va_get (D := (dC, dI)) (ci := 6) (v := .ref ry) (C := RX7) (T := TX7) (N := 4) hx hb hts inX7 hown hK hP 0 rfl rfl 1 (by decide) (hts _ mw_168) (fun _ h9 => h9) rfl dX7_where_239 ?_
                                    refine lv_iload hx hb dX7_where_242 (lv_at hl 2 rfl) ?_
                                    refine z_iald hx hb hK hP 2 0 rfl rfl (e := i) rfl (by omega) (by omega) dX7_where_244 ?_
                                    refine lv_icmp_le (tgt := 252) hx hb dX7_where_245 (by decide) (fun c_437 => ?_) (fun c_437 => ?_)
                                    · have c_437 : (Y (nxt n i)).toInt ≤ (Y i).toInt := zc_le rfl rfl c_437
                                      refine lv_iconst (v := 0) hx hb dX7_where_252 (by decide) ?_
                                      refine lv_icmp_ne (tgt := 266) hx hb dX7_where_253 (by decide) (fun c_438 => ?_) (fun c_438 => ?_)
                                      · have c_438 : ¬ 1 = 0 := zc_ne (by decide) (by decide) c_438
                                        refine lv_iinc (v := nI (i + 1)) (lv' := [(4, .int (nI (i + 1))), (6, .int (iI (eCr n X Y i px.toInt py.toInt))), (5, .int (nI (nxt n i))), (3, .int (pI (par2 (eTg n X Y px.toInt py.toInt) i))), (0, .ref r), (1, .int px), (2, .int py)]) hx hb dX7_where_266 hl (k := 2) rfl (nI_add i 1) (by decide) rfl (fun ls hl => ?_)
                                        refine lv_goto (tgt := 5) hx hb dX7_where_269 (by decide) ?_
                                        have hl9 := lv_sub hl [0, 3, 4, 5, 6] rfl
                                        have e9_3 : pI (par2 (eTg n X Y px.toInt py.toInt) (i + 1)) = (pI (par2 (eTg n X Y px.toInt py.toInt) i) : Int32) := by first | exact zp_iff (par2_n (sk_tg (by omega)).1) | exact zp_iff (par2_n (by unfold eTg; omega)) | exact zp_t ((par2_y (by unfold eTg; omega)).mpr (by assumption)) | exact zp_f (fun q => (par2_y (by unfold eTg; omega)).mp q (by assumption))
                                        have hl9 : lv_has ls 7 [(4, .int (nI (i + 1))), (3, .int (pI (par2 (eTg n X Y px.toInt py.toInt) (i + 1)))), (0, .ref r), (1, .int px), (2, .int py)] := by rw [e9_3]; exact hl9
                                        exact ih_5 (i + 1) H locs ls (by omega) (by omega) (by intro k hk; rcases Nat.lt_or_ge k i with h | h; exact hno k h; have e9 : k = i := (by omega); subst e9; first | exact (sk_tg (by omega)).2 | (unfold eOn onS; unfold eCr at *; omega)) hP hD hS hl9
                                      · exact absurd c_438 (by decide)
                                    · have c_437 : (Y i).toInt < (Y (nxt n i)).toInt := zc_nle rfl rfl c_437
                                      refine lv_iconst (v := 1) hx hb dX7_where_248 (by decide) ?_
                                      refine lv_goto (tgt := 253) hx hb dX7_where_249 (by decide) ?_
                                      refine lv_icmp_ne (tgt := 266) hx hb dX7_where_253 (by decide) (fun c_439 => ?_) (fun c_439 => ?_)
                                      · exact absurd (by decide) c_439
                                      · have c_439 : 1 = 1 := zc_eq (by decide) (by decide) c_439
                                        refine lv_iload_n hx hb dX7_where_256 rfl (lv_at hl 3 rfl) ?_
                                        refine lv_if_ne (tgt := 264) hx hb dX7_where_257 (by decide) (fun c_440 => ?_) (fun c_440 => ?_)
                                        · have c_440 : par2 (eTg n X Y px.toInt py.toInt) i := zp_1 c_440
                                          refine lv_iconst (v := 0) hx hb dX7_where_264 (by decide) ?_
                                          refine lv_istore_n (lv' := [(3, .int 0), (6, .int (iI (eCr n X Y i px.toInt py.toInt))), (5, .int (nI (nxt n i))), (4, .int (nI i)), (0, .ref r), (1, .int px), (2, .int py)]) hx hb dX7_where_265 rfl hl (by decide) rfl (fun ls hl => ?_)
                                          refine lv_iinc (v := nI (i + 1)) (lv' := [(4, .int (nI (i + 1))), (3, .int 0), (6, .int (iI (eCr n X Y i px.toInt py.toInt))), (5, .int (nI (nxt n i))), (0, .ref r), (1, .int px), (2, .int py)]) hx hb dX7_where_266 hl (k := 3) rfl (nI_add i 1) (by decide) rfl (fun ls hl => ?_)
                                          refine lv_goto (tgt := 5) hx hb dX7_where_269 (by decide) ?_
                                          have hl9 := lv_sub hl [0, 1, 4, 5, 6] rfl
                                          have e9_3 : pI (par2 (eTg n X Y px.toInt py.toInt) (i + 1)) = (0 : Int32) := by first | exact zp_iff (par2_n (sk_tg (by omega)).1) | exact zp_iff (par2_n (by unfold eTg; omega)) | exact zp_t ((par2_y (by unfold eTg; omega)).mpr (by assumption)) | exact zp_f (fun q => (par2_y (by unfold eTg; omega)).mp q (by assumption))
                                          have hl9 : lv_has ls 7 [(4, .int (nI (i + 1))), (3, .int (pI (par2 (eTg n X Y px.toInt py.toInt) (i + 1)))), (0, .ref r), (1, .int px), (2, .int py)] := by rw [e9_3]; exact hl9
                                          exact ih_5 (i + 1) H locs ls (by omega) (by omega) (by intro k hk; rcases Nat.lt_or_ge k i with h | h; exact hno k h; have e9 : k = i := (by omega); subst e9; first | exact (sk_tg (by omega)).2 | (unfold eOn onS; unfold eCr at *; omega)) hP hD hS hl9
                                        · have c_440 : ¬ (par2 (eTg n X Y px.toInt py.toInt) i) := zp_0 c_440
                                          refine lv_iconst (v := 1) hx hb dX7_where_260 (by decide) ?_
                                          refine lv_goto (tgt := 265) hx hb dX7_where_261 (by decide) ?_
                                          refine lv_istore_n (lv' := [(3, .int 1), (6, .int (iI (eCr n X Y i px.toInt py.toInt))), (5, .int (nI (nxt n i))), (4, .int (nI i)), (0, .ref r), (1, .int px), (2, .int py)]) hx hb dX7_where_265 rfl hl (by decide) rfl (fun ls hl => ?_)
                                          refine lv_iinc (v := nI (i + 1)) (lv' := [(4, .int (nI (i + 1))), (3, .int 1), (6, .int (iI (eCr n X Y i px.toInt py.toInt))), (5, .int (nI (nxt n i))), (0, .ref r), (1, .int px), (2, .int py)]) hx hb dX7_where_266 hl (k := 3) rfl (nI_add i 1) (by decide) rfl (fun ls hl => ?_)
                                          refine lv_goto (tgt := 5) hx hb dX7_where_269 (by decide) ?_
                                          have hl9 := lv_sub hl [0, 1, 4, 5, 6] rfl
                                          have e9_3 : pI (par2 (eTg n X Y px.toInt py.toInt) (i + 1)) = (1 : Int32) := by first | exact zp_iff (par2_n (sk_tg (by omega)).1) | exact zp_iff (par2_n (by unfold eTg; omega)) | exact zp_t ((par2_y (by unfold eTg; omega)).mpr (by assumption)) | exact zp_f (fun q => (par2_y (by unfold eTg; omega)).mp q (by assumption))
                                          have hl9 : lv_has ls 7 [(4, .int (nI (i + 1))), (3, .int (pI (par2 (eTg n X Y px.toInt py.toInt) (i + 1)))), (0, .ref r), (1, .int px), (2, .int py)] := by rw [e9_3]; exact hl9
                                          exact ih_5 (i + 1) H locs ls (by omega) (by omega) (by intro k hk; rcases Nat.lt_or_ge k i with h | h; exact hno k h; have e9 : k = i := (by omega); subst e9; first | exact (sk_tg (by omega)).2 | (unfold eOn onS; unfold eCr at *; omega)) hP hD hS hl9
                              · have c_430 : py.toInt < (Y (nxt n i)).toInt := zc_nle rfl rfl c_430
                                refine lv_iconst (v := 1) hx hb dX7_where_213 (by decide) ?_
                                refine lv_goto (tgt := 218) hx hb dX7_where_214 (by decide) ?_
                                refine lv_icmp_eq (tgt := 266) hx hb dX7_where_218 (by decide) (fun c_441 => ?_) (fun c_441 => ?_)
                                · have c_441 : 1 = 1 := zc_eq (by decide) (by decide) c_441
                                  refine lv_iinc (v := nI (i + 1)) (lv' := [(4, .int (nI (i + 1))), (6, .int (iI (eCr n X Y i px.toInt py.toInt))), (5, .int (nI (nxt n i))), (3, .int (pI (par2 (eTg n X Y px.toInt py.toInt) i))), (0, .ref r), (1, .int px), (2, .int py)]) hx hb dX7_where_266 hl (k := 2) rfl (nI_add i 1) (by decide) rfl (fun ls hl => ?_)
                                  refine lv_goto (tgt := 5) hx hb dX7_where_269 (by decide) ?_
                                  have hl9 := lv_sub hl [0, 3, 4, 5, 6] rfl
                                  have e9_3 : pI (par2 (eTg n X Y px.toInt py.toInt) (i + 1)) = (pI (par2 (eTg n X Y px.toInt py.toInt) i) : Int32) := by first | exact zp_iff (par2_n (sk_tg (by omega)).1) | exact zp_iff (par2_n (by unfold eTg; omega)) | exact zp_t ((par2_y (by unfold eTg; omega)).mpr (by assumption)) | exact zp_f (fun q => (par2_y (by unfold eTg; omega)).mp q (by assumption))
                                  have hl9 : lv_has ls 7 [(4, .int (nI (i + 1))), (3, .int (pI (par2 (eTg n X Y px.toInt py.toInt) (i + 1)))), (0, .ref r), (1, .int px), (2, .int py)] := by rw [e9_3]; exact hl9
                                  exact ih_5 (i + 1) H locs ls (by omega) (by omega) (by intro k hk; rcases Nat.lt_or_ge k i with h | h; exact hno k h; have e9 : k = i := (by omega); subst e9; first | exact (sk_tg (by omega)).2 | (unfold eOn onS; unfold eCr at *; omega)) hP hD hS hl9
                                · exact absurd (by decide) c_441
                          · have c_416 : (X (nxt n i)).toInt ≤ px.toInt := zc_nlt rfl rfl c_416
                            refine lv_iconst (v := 2) hx hb dX7_where_184 (by decide) ?_
                            have hP9 := hP.sub (ws' := [(r, .inr (6, [.ref rx, .ref ry, .int (nI n), .int rg])), (rx, .inl (cI, cap, .inl X)), (ry, .inl (cI, cap, .inl Y))]) [0, 1, 2] rfl
                            have hD9 := hD.sub (ws' := [(r, .inr (6, [.ref rx, .ref ry, .int (nI n), .int rg])), (rx, .inl (cI, cap, .inl X)), (ry, .inl (cI, cap, .inl Y))]) [0, 1, 2] (by decide) rfl
                            rw [hQ9]
                            exact W.iret (v := 2) hx hb hr (fun t ht hW => ⟨⟨congrArg (fun z => Outcome.returned (some (Value.int z))) (show (2 : Int32) = whr n X Y px.toInt py.toInt from (whr_2 ⟨i, by omega, by unfold eOn onS; unfold eCr at *; omega⟩).symm), by rw [ht]; exact hP9, hD9⟩, hS.F ht⟩) hS.2.2 dX7_where_185
                    · have c_388 : (X (nxt n i)).toInt < px.toInt := zc_nle rfl rfl c_388
                      refine lv_goto (tgt := 266) hx hb dX7_where_101 (by decide) ?_
                      refine lv_iinc (v := nI (i + 1)) (lv' := [(4, .int (nI (i + 1))), (5, .int (nI (nxt n i))), (3, .int (pI (par2 (eTg n X Y px.toInt py.toInt) i))), (0, .ref r), (1, .int px), (2, .int py)]) hx hb dX7_where_266 hl (k := 1) rfl (nI_add i 1) (by decide) rfl (fun ls hl => ?_)
                      refine lv_goto (tgt := 5) hx hb dX7_where_269 (by decide) ?_
                      have hl9 := lv_sub hl [0, 2, 3, 4, 5] rfl
                      have e9_3 : pI (par2 (eTg n X Y px.toInt py.toInt) (i + 1)) = (pI (par2 (eTg n X Y px.toInt py.toInt) i) : Int32) := by first | exact zp_iff (par2_n (sk_tg (by omega)).1) | exact zp_iff (par2_n (by unfold eTg; omega)) | exact zp_t ((par2_y (by unfold eTg; omega)).mpr (by assumption)) | exact zp_f (fun q => (par2_y (by unfold eTg; omega)).mp q (by assumption))
                      have hl9 : lv_has ls 7 [(4, .int (nI (i + 1))), (3, .int (pI (par2 (eTg n X Y px.toInt py.toInt) (i + 1)))), (0, .ref r), (1, .int px), (2, .int py)] := by rw [e9_3]; exact hl9
                      exact ih_5 (i + 1) H locs ls (by omega) (by omega) (by intro k hk; rcases Nat.lt_or_ge k i with h | h; exact hno k h; have e9 : k = i := (by omega); subst e9; first | exact (sk_tg (by omega)).2 | (unfold eOn onS; unfold eCr at *; omega)) hP hD hS hl9
        refine lv_icmp_ge (tgt := 32) hx hb dX7_where_22 (by decide) (fun c_442 => ?_) (fun c_442 => ?_)
        · have c_442 : ((n : Nat) : Int) ≤ ((i + 1 : Nat) : Int) := zc_le (nI_toInt (by omega)) (nI_toInt (by omega)) c_442
          refine lv_iconst (v := 0) hx hb dX7_where_32 (by decide) ?_
          refine zz_i (v := nI (nxt n i)) (by first | (rw [nxt, if_pos (by omega)]) | (rw [nxt, if_neg (by omega)]; first | done | rfl)) ?_
          exact hj_3 
        · have c_442 : ((i + 1 : Nat) : Int) < ((n : Nat) : Int) := zc_nle (nI_toInt (by omega)) (nI_toInt (by omega)) c_442
          refine lv_iload hx hb dX7_where_25 (lv_at hl 0 rfl) ?_
          refine lv_iconst (v := 1) hx hb dX7_where_27 (by decide) ?_
          refine lv_iadd hx hb dX7_where_28 ?_
          refine zz_i (v := nI (i + 1)) (nI_add i 1) ?_
          refine lv_goto (tgt := 33) hx hb dX7_where_29 (by decide) ?_
          refine zz_i (v := nI (nxt n i)) (by first | (rw [nxt, if_pos (by omega)]) | (rw [nxt, if_neg (by omega)]; first | done | rfl)) ?_
          exact hj_3 
  have e9_3 : pI (par2 (eTg n X Y px.toInt py.toInt) 0) = (0 : Int32) := by exact zp_f (fun h => h)
  have hl9 : lv_has ls 7 [(4, .int (nI 0)), (3, .int (pI (par2 (eTg n X Y px.toInt py.toInt) 0))), (0, .ref r), (1, .int px), (2, .int py)] := by rw [e9_3]; exact lv_sub hl [0, 1, 2, 3, 4] rfl
  exact hl_5 _ 0 s.heap [] ls (Nat.lt_succ_self _) (by omega) (by intro k hk; omega) hP hD hS hl9
