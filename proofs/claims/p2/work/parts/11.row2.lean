set_option maxHeartbeats 4000000 in
set_option maxRecDepth 100000 in
theorem k_Row_where (l : Launch) (dC : Nat → ClassId) (dI : Nat → Nat → Nat) (cI cZ cF : ClassId) (sz : Nat) (r : Nat) (rx : Nat) (ry : Nat) (n : Nat) (cap : Nat) (X : Nat → Int32) (Y : Nat → Int32) (rg : Int32) (px : Int32) (py : Int32) (hn : n ≤ cap) (hcap : cap ≤ 1000) (hp : pls n X Y) (hpx : pl px) (hpy : pl py) : Met l yX7_where (.code yX7_where cX7_where 7 (some .int) :: ws0) ({ frames := 0, cells := 0, slots := 0, locals := 0 } : Room) (va_Pc [.ref r, .int px, .int py] (zPre (dC, dI) classes (zTy cI cZ cF) [(oc6 r (.ref rx) (.ref ry) (nI n) rg), (oa rx cI cap X), (oa ry cI cap Y)] sz zXN)) (zQ (some (.int (whr n X Y px.toInt py.toInt))) (fun t => va_P (dC, dI) classes [(oc6 r (.ref rx) (.ref ry) (nI n) rg), (oa rx cI cap X), (oa ry cI cap Y)] t.heap ∧ va_D (va_A [(oc6 r (.ref rx) (.ref ry) (nI n) rg), (oa rx cI cap X), (oa ry cI cap Y)] sz) [(oc6 r (.ref rx) (.ref ry) (nI n) rg), (oa rx cI cap X), (oa ry cI cap Y)]) (va_A [(oc6 r (.ref rx) (.ref ry) (nI n) rg), (oa rx cI cap X), (oa ry cI cap Y)] sz)) 0 0 (va_A [(oc6 r (.ref rx) (.ref ry) (nI n) rg), (oa rx cI cap X), (oa ry cI cap Y)] sz) := by
  refine Met.ofW (cc := cX7_where) (maxL := 7) (ret := (some .int)) (by decide) rfl ?_
  intro p e s m args below meth c s₁ B hml hv
  obtain ⟨rfl, hsz, hP, hK, hD0, hXN⟩ := hv
  have hx := B.exec
  have hb := B.bytes
  have hr := B.returns
  have hts0 := atoms_spec (ws := .code yX7_where cX7_where 7 (some .int) :: ws0) B.pre
  have hts : ∀ w9 ∈ ws0, w9.before ([.ref r, .int px, .int py] : List Value).toArray s = true := fun w9 h => hts0 w9 (List.mem_cons_of_mem _ h)
  have hown : s.vm.findClass "ScaleShop$Row" = some m.cls := findClass_of_methodNamed B.named
  have hlocks := B.notSynchronized
  subst hsz
  have hD := hD0.self (sz := s.heap.size)
  clear hD0
  generalize hAe : va_A [(oc6 r (.ref rx) (.ref ry) (nI n) rg), (oa rx cI cap X), (oa ry cI cap Y)] s.heap.size = A at hD ⊢
  have hA : ∀ q : Nat, s.heap.size ≤ q → A q := fun q h => by rw [← hAe]; exact Or.inr h
  clear hAe
  have hS : va_S A s.heap s.heap [] := va_S.rf
  have hP : va_P (dC, dI) classes [(oc6 r (.ref rx) (.ref ry) (nI n) rg), (oa rx cI cap X), (oa ry cI cap Y)] s.heap := hP
  obtain ⟨Q9, hQ9⟩ : ∃ Q9 : State → Prop, Q9 = MQ below (zQ (some (.int (whr n X Y px.toInt py.toInt))) (fun t => va_P (dC, dI) classes [(oc6 r (.ref rx) (.ref ry) (nI n) rg), (oa rx cI cap X), (oa ry cI cap Y)] t.heap ∧ va_D A [(oc6 r (.ref rx) (.ref ry) (nI n) rg), (oa rx cI cap X), (oa ry cI cap Y)]) A) ([.ref r, .int px, .int py] : List Value).toArray s 0 0 A := ⟨_, rfl⟩
  rw [← hQ9]
  have hl := lv_entry ([.ref r, .int px, .int py]) (n := 7) (Nat.le_of_ble_eq_true rfl)
  rw [lg_entry_eq]
  generalize (lg_sl ([.ref r, .int px, .int py]) ++ List.replicate (7 - (lg_sl ([.ref r, .int px, .int py])).length) Slot.unset).toArray = ls at hl ⊢
  have hl : lv_has ls 7 [(0, .ref r), (1, .int px), (2, .int py)] := hl
  refine lv_iconst (v := 0) hx hb dX7_where_0 (by decide) ?_
  refine lv_istore_n (lv' := [(3, .int 0), (0, .ref r), (1, .int px), (2, .int py)]) hx hb dX7_where_1 rfl hl (by decide) rfl (fun ls hl => ?_)
  refine lv_iconst (v := 0) hx hb dX7_where_2 (by decide) ?_
  refine lv_istore (lv' := [(4, .int 0), (3, .int 0), (0, .ref r), (1, .int px), (2, .int py)]) hx hb dX7_where_3 hl (by decide) rfl (fun ls hl => ?_)
  have hl_5 : ∀ (n9 : Nat) (i : Nat) (H : Heap) (locs : List Loc) (ls : Array Slot), n - i < n9 → (i ≤ n) → (∀ k, k < i → ¬ eOn n X Y k px.toInt py.toInt) → va_P (dC, dI) classes [(oc6 r (.ref rx) (.ref ry) (nI n) rg), (oa rx cI cap X), (oa ry cI cap Y)] H → va_D A [(oc6 r (.ref rx) (.ref ry) (nI n) rg), (oa rx cI cap X), (oa ry cI cap Y)] → va_S A s.heap H locs → lv_has ls 7 [(4, .int (nI i)), (3, .int (pI (par2 (eTg n X Y px.toInt py.toInt) i))), (0, .ref r), (1, .int px), (2, .int py)] → W p l e ((headSpec (.code yX7_where cX7_where 7 (some .int) :: ws0) ({ frames := 0, cells := 0, slots := 0, locals := 0 } : Room)).room) s m ([.ref r, .int px, .int py] : List Value).toArray below meth c H locs 0 0 Q9 (F0 m 5 ls []) := by
    intro n9
    induction n9 with
    | zero => intro i H locs ls hm; exact absurd hm (Nat.not_lt_zero _)
    | succ n9 ih_5 =>
      intro i H locs ls hm hi hno hP hD hS hl
      refine lv_iload hx hb dX7_where_5 (lv_at hl 0 rfl) ?_
      refine lv_aload_n hx hb dX7_where_7 rfl (lv_at hl 2 rfl) ?_
      refine va_get (D := (dC, dI)) (ci := 6) (v := .int (nI n)) (C := RX7) (T := TX7) (N := 4) hx hb hts inX7 hown hK hP 0 rfl rfl 2 (by decide) (hts _ mw_175) (fun _ h9 => h9) rfl dX7_where_8 ?_
      refine lv_icmp_ge (tgt := 272) hx hb dX7_where_11 (by decide) (fun c_1 => ?_) (fun c_1 => ?_)
      · have c_1 : ((n : Nat) : Int) ≤ ((i : Nat) : Int) := zc_le (nI_toInt (by omega)) (nI_toInt (by omega)) c_1
        refine lv_iload_n hx hb dX7_where_272 rfl (lv_at hl 1 rfl) ?_
        refine lv_if_eq (tgt := 280) hx hb dX7_where_273 (by decide) (fun c_2 => ?_) (fun c_2 => ?_)
        · have c_2 : ¬ (par2 (eTg n X Y px.toInt py.toInt) i) := zp_0 c_2
          refine lv_iconst (v := 0) hx hb dX7_where_280 (by decide) ?_
          have hP9 := hP.sub (ws' := [(oc6 r (.ref rx) (.ref ry) (nI n) rg), (oa rx cI cap X), (oa ry cI cap Y)]) [0, 1, 2] rfl
          have hD9 := hD.sub (ws' := [(oc6 r (.ref rx) (.ref ry) (nI n) rg), (oa rx cI cap X), (oa ry cI cap Y)]) [0, 1, 2] (by decide) rfl
          rw [hQ9]
          exact W.iret (v := 0) hx hb hr (fun t ht hW => ⟨⟨congrArg (fun z => Outcome.returned (some (Value.int z))) (show (0 : Int32) = whr n X Y px.toInt py.toInt from by obtain rfl : i = n := (by omega); rw [whr_n (fun ⟨k, hk, h⟩ => hno k hk h)]; first | exact (zp_t (by assumption)).symm | exact (zp_f (by assumption)).symm), by rw [ht]; exact hP9, hD9⟩, hS.F ht⟩) hS.2.2 dX7_where_281
        · have c_2 : par2 (eTg n X Y px.toInt py.toInt) i := zp_1 c_2
          refine lv_iconst (v := 1) hx hb dX7_where_276 (by decide) ?_
          refine lv_goto (tgt := 281) hx hb dX7_where_277 (by decide) ?_
          have hP9 := hP.sub (ws' := [(oc6 r (.ref rx) (.ref ry) (nI n) rg), (oa rx cI cap X), (oa ry cI cap Y)]) [0, 1, 2] rfl
          have hD9 := hD.sub (ws' := [(oc6 r (.ref rx) (.ref ry) (nI n) rg), (oa rx cI cap X), (oa ry cI cap Y)]) [0, 1, 2] (by decide) rfl
          rw [hQ9]
          exact W.iret (v := 1) hx hb hr (fun t ht hW => ⟨⟨congrArg (fun z => Outcome.returned (some (Value.int z))) (show (1 : Int32) = whr n X Y px.toInt py.toInt from by obtain rfl : i = n := (by omega); rw [whr_n (fun ⟨k, hk, h⟩ => hno k hk h)]; first | exact (zp_t (by assumption)).symm | exact (zp_f (by assumption)).symm), by rw [ht]; exact hP9, hD9⟩, hS.F ht⟩) hS.2.2 dX7_where_281
      · have c_1 : ((i : Nat) : Int) < ((n : Nat) : Int) := zc_nle (nI_toInt (by omega)) (nI_toInt (by omega)) c_1
        refine lv_iload hx hb dX7_where_14 (lv_at hl 0 rfl) ?_
        refine lv_iconst (v := 1) hx hb dX7_where_16 (by decide) ?_
        refine lv_iadd hx hb dX7_where_17 ?_
        refine zz_i (v := nI (i + 1)) (nI_add i 1) ?_
        refine lv_aload_n hx hb dX7_where_18 rfl (lv_at hl 2 rfl) ?_
        refine va_get (D := (dC, dI)) (ci := 6) (v := .int (nI n)) (C := RX7) (T := TX7) (N := 4) hx hb hts inX7 hown hK hP 0 rfl rfl 2 (by decide) (hts _ mw_175) (fun _ h9 => h9) rfl dX7_where_19 ?_
        have hj_3 : W p l e ((headSpec (.code yX7_where cX7_where 7 (some .int) :: ws0) ({ frames := 0, cells := 0, slots := 0, locals := 0 } : Room)).room) s m ([.ref r, .int px, .int py] : List Value).toArray below meth c H locs 0 0 Q9 (F0 m 33 ls [.int (nI (nxt n i))]) := by
          have hnx := nxt_lt (n := n) (i := i) (by omega)
          refine lv_istore (lv' := [(5, .int (nI (nxt n i))), (4, .int (nI i)), (3, .int (pI (par2 (eTg n X Y px.toInt py.toInt) i))), (0, .ref r), (1, .int px), (2, .int py)]) hx hb dX7_where_33 hl (by decide) rfl (fun ls hl => ?_)
          have hj_4 : (¬ ((py.toInt < (Y i).toInt ∧ py.toInt < (Y (nxt n i)).toInt) ∨ ((Y i).toInt < py.toInt ∧ (Y (nxt n i)).toInt < py.toInt) ∨ ((X i).toInt < px.toInt ∧ (X (nxt n i)).toInt < px.toInt))) → W p l e ((headSpec (.code yX7_where cX7_where 7 (some .int) :: ws0) ({ frames := 0, cells := 0, slots := 0, locals := 0 } : Room)).room) s m ([.ref r, .int px, .int py] : List Value).toArray below meth c H locs 0 0 Q9 (F0 m 104 ls []) := by
            intro hsk
            refine lv_aload_n hx hb dX7_where_104 rfl (lv_at hl 3 rfl) ?_
            refine va_get (D := (dC, dI)) (ci := 6) (v := .ref rx) (C := RX7) (T := TX7) (N := 4) hx hb hts inX7 hown hK hP 0 rfl rfl 0 (by decide) (hts _ mw_161) (fun _ h9 => h9) rfl dX7_where_105 ?_
            refine lv_iload hx hb dX7_where_108 (lv_at hl 0 rfl) ?_
            refine z_iald hx hb hK hP 1 0 rfl rfl (e := nxt n i) rfl (by omega) (by omega) dX7_where_110 ?_
            refine lv_aload_n hx hb dX7_where_111 rfl (lv_at hl 3 rfl) ?_
            refine va_get (D := (dC, dI)) (ci := 6) (v := .ref rx) (C := RX7) (T := TX7) (N := 4) hx hb hts inX7 hown hK hP 0 rfl rfl 0 (by decide) (hts _ mw_161) (fun _ h9 => h9) rfl dX7_where_112 ?_
            refine lv_iload hx hb dX7_where_115 (lv_at hl 1 rfl) ?_
            refine z_iald hx hb hK hP 1 0 rfl rfl (e := i) rfl (by omega) (by omega) dX7_where_117 ?_
            refine lv_isub hx hb dX7_where_118 ?_
            refine lv_iload_n hx hb dX7_where_119 rfl (lv_at hl 5 rfl) ?_
            refine lv_aload_n hx hb dX7_where_120 rfl (lv_at hl 3 rfl) ?_
            refine va_get (D := (dC, dI)) (ci := 6) (v := .ref ry) (C := RX7) (T := TX7) (N := 4) hx hb hts inX7 hown hK hP 0 rfl rfl 1 (by decide) (hts _ mw_168) (fun _ h9 => h9) rfl dX7_where_121 ?_
            refine lv_iload hx hb dX7_where_124 (lv_at hl 1 rfl) ?_
            refine z_iald hx hb hK hP 2 0 rfl rfl (e := i) rfl (by omega) (by omega) dX7_where_126 ?_
            refine lv_isub hx hb dX7_where_127 ?_
            refine lv_imul hx hb dX7_where_128 ?_
            refine lv_aload_n hx hb dX7_where_129 rfl (lv_at hl 3 rfl) ?_
            refine va_get (D := (dC, dI)) (ci := 6) (v := .ref ry) (C := RX7) (T := TX7) (N := 4) hx hb hts inX7 hown hK hP 0 rfl rfl 1 (by decide) (hts _ mw_168) (fun _ h9 => h9) rfl dX7_where_130 ?_
            refine lv_iload hx hb dX7_where_133 (lv_at hl 0 rfl) ?_
            refine z_iald hx hb hK hP 2 0 rfl rfl (e := nxt n i) rfl (by omega) (by omega) dX7_where_135 ?_
            refine lv_aload_n hx hb dX7_where_136 rfl (lv_at hl 3 rfl) ?_
            refine va_get (D := (dC, dI)) (ci := 6) (v := .ref ry) (C := RX7) (T := TX7) (N := 4) hx hb hts inX7 hown hK hP 0 rfl rfl 1 (by decide) (hts _ mw_168) (fun _ h9 => h9) rfl dX7_where_137 ?_
            refine lv_iload hx hb dX7_where_140 (lv_at hl 1 rfl) ?_
            refine z_iald hx hb hK hP 2 0 rfl rfl (e := i) rfl (by omega) (by omega) dX7_where_142 ?_
            refine lv_isub hx hb dX7_where_143 ?_
            refine lv_iload_n hx hb dX7_where_144 rfl (lv_at hl 4 rfl) ?_
            refine lv_aload_n hx hb dX7_where_145 rfl (lv_at hl 3 rfl) ?_
            refine va_get (D := (dC, dI)) (ci := 6) (v := .ref rx) (C := RX7) (T := TX7) (N := 4) hx hb hts inX7 hown hK hP 0 rfl rfl 0 (by decide) (hts _ mw_161) (fun _ h9 => h9) rfl dX7_where_146 ?_
            refine lv_iload hx hb dX7_where_149 (lv_at hl 1 rfl) ?_
            refine z_iald hx hb hK hP 1 0 rfl rfl (e := i) rfl (by omega) (by omega) dX7_where_151 ?_
            refine lv_isub hx hb dX7_where_152 ?_
            refine lv_imul hx hb dX7_where_153 ?_
            refine lv_isub hx hb dX7_where_154 ?_
            refine zz_i (v := iI (eCr n X Y i px.toInt py.toInt)) (crI (hp i (by omega)).1 (hp i (by omega)).2 (hp _ hnx).1 (hp _ hnx).2 hpx hpy) ?_
            have hB1 := crBp (hp i (by omega)).1 (hp i (by omega)).2 (hp _ hnx).1 (hp _ hnx).2 hpx hpy
            have hB1 : -2000000 ≤ eCr n X Y i px.toInt py.toInt ∧ eCr n X Y i px.toInt py.toInt ≤ 2000000 := hB1
            refine lv_istore (lv' := [(6, .int (iI (eCr n X Y i px.toInt py.toInt))), (5, .int (nI (nxt n i))), (4, .int (nI i)), (3, .int (pI (par2 (eTg n X Y px.toInt py.toInt) i))), (0, .ref r), (1, .int px), (2, .int py)]) hx hb dX7_where_155 hl (by decide) rfl (fun ls hl => ?_)
            have hj_5 : (¬ (eCr n X Y i px.toInt py.toInt = 0 ∧ ((X i).toInt ≤ px.toInt ∨ (X (nxt n i)).toInt ≤ px.toInt))) → W p l e ((headSpec (.code yX7_where cX7_where 7 (some .int) :: ws0) ({ frames := 0, cells := 0, slots := 0, locals := 0 } : Room)).room) s m ([.ref r, .int px, .int py] : List Value).toArray below meth c H locs 0 0 Q9 (F0 m 186 ls []) := by
              intro h186
              have hne : (py.toInt < (Y i).toInt ↔ ¬ py.toInt < (Y (nxt n i)).toInt) → ¬ eCr n X Y i px.toInt py.toInt = 0 := fun h1 h0 => h186 ⟨h0, (by have h9 := on_of_mid h1 h0; unfold onS at h9; omega)⟩
              refine lv_aload_n hx hb dX7_where_186 rfl (lv_at hl 4 rfl) ?_
              refine va_get (D := (dC, dI)) (ci := 6) (v := .ref ry) (C := RX7) (T := TX7) (N := 4) hx hb hts inX7 hown hK hP 0 rfl rfl 1 (by decide) (hts _ mw_168) (fun _ h9 => h9) rfl dX7_where_187 ?_
              refine lv_iload hx hb dX7_where_190 (lv_at hl 2 rfl) ?_
              refine z_iald hx hb hK hP 2 0 rfl rfl (e := i) rfl (by omega) (by omega) dX7_where_192 ?_
              refine lv_iload_n hx hb dX7_where_193 rfl (lv_at hl 6 rfl) ?_
              refine lv_icmp_le (tgt := 201) hx hb dX7_where_194 (by decide) (fun c_6 => ?_) (fun c_6 => ?_)
              · have c_6 : (Y i).toInt ≤ py.toInt := zc_le rfl rfl c_6
                refine lv_iconst (v := 0) hx hb dX7_where_201 (by decide) ?_
                refine lv_aload_n hx hb dX7_where_202 rfl (lv_at hl 4 rfl) ?_
                refine va_get (D := (dC, dI)) (ci := 6) (v := .ref ry) (C := RX7) (T := TX7) (N := 4) hx hb hts inX7 hown hK hP 0 rfl rfl 1 (by decide) (hts _ mw_168) (fun _ h9 => h9) rfl dX7_where_203 ?_
                refine lv_iload hx hb dX7_where_206 (lv_at hl 1 rfl) ?_
                refine z_iald hx hb hK hP 2 0 rfl rfl (e := nxt n i) rfl (by omega) (by omega) dX7_where_208 ?_
                refine lv_iload_n hx hb dX7_where_209 rfl (lv_at hl 6 rfl) ?_
                refine lv_icmp_le (tgt := 217) hx hb dX7_where_210 (by decide) (fun c_7 => ?_) (fun c_7 => ?_)
                · have c_7 : (Y (nxt n i)).toInt ≤ py.toInt := zc_le rfl rfl c_7
                  refine lv_iconst (v := 0) hx hb dX7_where_217 (by decide) ?_
                  refine lv_icmp_eq (tgt := 266) hx hb dX7_where_218 (by decide) (fun c_8 => ?_) (fun c_8 => ?_)
                  · refine lv_iinc (v := nI (i + 1)) (lv' := [(4, .int (nI (i + 1))), (6, .int (iI (eCr n X Y i px.toInt py.toInt))), (5, .int (nI (nxt n i))), (3, .int (pI (par2 (eTg n X Y px.toInt py.toInt) i))), (0, .ref r), (1, .int px), (2, .int py)]) hx hb dX7_where_266 hl (k := 2) rfl (nI_add i 1) (by decide) rfl (fun ls hl => ?_)
                    refine lv_goto (tgt := 5) hx hb dX7_where_269 (by decide) ?_
                    have hl9 := lv_sub hl [0, 3, 4, 5, 6] rfl
                    have e9_3 : pI (par2 (eTg n X Y px.toInt py.toInt) (i + 1)) = (pI (par2 (eTg n X Y px.toInt py.toInt) i) : Int32) := by first | exact zp_iff (par2_n (sk_tg (by omega)).1) | exact zp_iff (par2_n (by unfold eTg; omega)) | exact zp_t ((par2_y (P := (eTg n X Y px.toInt py.toInt)) (i := i) (by have h9 := hne (by omega); unfold eTg; omega)).mpr (by assumption)) | exact zp_f (fun q => (par2_y (P := (eTg n X Y px.toInt py.toInt)) (i := i) (by have h9 := hne (by omega); unfold eTg; omega)).mp q (by assumption))
                    have hl9 : lv_has ls 7 [(4, .int (nI (i + 1))), (3, .int (pI (par2 (eTg n X Y px.toInt py.toInt) (i + 1)))), (0, .ref r), (1, .int px), (2, .int py)] := by rw [e9_3]; exact hl9
                    exact ih_5 (i + 1) H locs ls (by omega) (by omega) (by intro k hk; rcases Nat.lt_or_ge k i with h | h; exact hno k h; have e9 : k = i := (by omega); subst e9; first | exact (sk_tg (by omega)).2 | (unfold eOn onS; unfold eCr at *; omega)) hP hD hS hl9
                  · exact absurd (by decide) c_8
                · have c_7 : py.toInt < (Y (nxt n i)).toInt := zc_nle rfl rfl c_7
                  refine lv_iconst (v := 1) hx hb dX7_where_213 (by decide) ?_
                  refine lv_goto (tgt := 218) hx hb dX7_where_214 (by decide) ?_
                  refine lv_icmp_eq (tgt := 266) hx hb dX7_where_218 (by decide) (fun c_9 => ?_) (fun c_9 => ?_)
                  · exact absurd c_9 (by decide)
                  · refine lv_iload hx hb dX7_where_221 (lv_at hl 0 rfl) ?_
                    refine lv_if_le (tgt := 230) hx hb dX7_where_223 (by decide) (fun c_10 => ?_) (fun c_10 => ?_)
                    · have c_10 : (eCr n X Y i px.toInt py.toInt) ≤ 0 := zc_le (iI_toInt (by omega)) (by decide) c_10
                      refine lv_iconst (v := 0) hx hb dX7_where_230 (by decide) ?_
                      refine lv_aload_n hx hb dX7_where_231 rfl (lv_at hl 4 rfl) ?_
                      refine va_get (D := (dC, dI)) (ci := 6) (v := .ref ry) (C := RX7) (T := TX7) (N := 4) hx hb hts inX7 hown hK hP 0 rfl rfl 1 (by decide) (hts _ mw_168) (fun _ h9 => h9) rfl dX7_where_232 ?_
                      refine lv_iload hx hb dX7_where_235 (lv_at hl 1 rfl) ?_
                      refine z_iald hx hb hK hP 2 0 rfl rfl (e := nxt n i) rfl (by omega) (by omega) dX7_where_237 ?_
                      refine lv_aload_n hx hb dX7_where_238 rfl (lv_at hl 4 rfl) ?_
                      refine va_get (D := (dC, dI)) (ci := 6) (v := .ref ry) (C := RX7) (T := TX7) (N := 4) hx hb hts inX7 hown hK hP 0 rfl rfl 1 (by decide) (hts _ mw_168) (fun _ h9 => h9) rfl dX7_where_239 ?_
                      refine lv_iload hx hb dX7_where_242 (lv_at hl 2 rfl) ?_
                      refine z_iald hx hb hK hP 2 0 rfl rfl (e := i) rfl (by omega) (by omega) dX7_where_244 ?_
                      refine lv_icmp_le (tgt := 252) hx hb dX7_where_245 (by decide) (fun c_11 => ?_) (fun c_11 => ?_)
                      · have c_11 : (Y (nxt n i)).toInt ≤ (Y i).toInt := zc_le rfl rfl c_11
                        refine lv_iconst (v := 0) hx hb dX7_where_252 (by decide) ?_
                        refine lv_icmp_ne (tgt := 266) hx hb dX7_where_253 (by decide) (fun c_12 => ?_) (fun c_12 => ?_)
                        · exact absurd (by decide) c_12
                        · refine lv_iload_n hx hb dX7_where_256 rfl (lv_at hl 3 rfl) ?_
                          refine lv_if_ne (tgt := 264) hx hb dX7_where_257 (by decide) (fun c_13 => ?_) (fun c_13 => ?_)
                          · have c_13 : par2 (eTg n X Y px.toInt py.toInt) i := zp_1 c_13
                            refine lv_iconst (v := 0) hx hb dX7_where_264 (by decide) ?_
                            refine lv_istore_n (lv' := [(3, .int 0), (6, .int (iI (eCr n X Y i px.toInt py.toInt))), (5, .int (nI (nxt n i))), (4, .int (nI i)), (0, .ref r), (1, .int px), (2, .int py)]) hx hb dX7_where_265 rfl hl (by decide) rfl (fun ls hl => ?_)
                            refine lv_iinc (v := nI (i + 1)) (lv' := [(4, .int (nI (i + 1))), (3, .int 0), (6, .int (iI (eCr n X Y i px.toInt py.toInt))), (5, .int (nI (nxt n i))), (0, .ref r), (1, .int px), (2, .int py)]) hx hb dX7_where_266 hl (k := 3) rfl (nI_add i 1) (by decide) rfl (fun ls hl => ?_)
                            refine lv_goto (tgt := 5) hx hb dX7_where_269 (by decide) ?_
                            have hl9 := lv_sub hl [0, 1, 4, 5, 6] rfl
                            have e9_3 : pI (par2 (eTg n X Y px.toInt py.toInt) (i + 1)) = (0 : Int32) := by first | exact zp_iff (par2_n (sk_tg (by omega)).1) | exact zp_iff (par2_n (by unfold eTg; omega)) | exact zp_t ((par2_y (P := (eTg n X Y px.toInt py.toInt)) (i := i) (by have h9 := hne (by omega); unfold eTg; omega)).mpr (by assumption)) | exact zp_f (fun q => (par2_y (P := (eTg n X Y px.toInt py.toInt)) (i := i) (by have h9 := hne (by omega); unfold eTg; omega)).mp q (by assumption))
                            have hl9 : lv_has ls 7 [(4, .int (nI (i + 1))), (3, .int (pI (par2 (eTg n X Y px.toInt py.toInt) (i + 1)))), (0, .ref r), (1, .int px), (2, .int py)] := by rw [e9_3]; exact hl9
                            exact ih_5 (i + 1) H locs ls (by omega) (by omega) (by intro k hk; rcases Nat.lt_or_ge k i with h | h; exact hno k h; have e9 : k = i := (by omega); subst e9; first | exact (sk_tg (by omega)).2 | (unfold eOn onS; unfold eCr at *; omega)) hP hD hS hl9
                          · have c_13 : ¬ (par2 (eTg n X Y px.toInt py.toInt) i) := zp_0 c_13
                            refine lv_iconst (v := 1) hx hb dX7_where_260 (by decide) ?_
                            refine lv_goto (tgt := 265) hx hb dX7_where_261 (by decide) ?_
                            refine lv_istore_n (lv' := [(3, .int 1), (6, .int (iI (eCr n X Y i px.toInt py.toInt))), (5, .int (nI (nxt n i))), (4, .int (nI i)), (0, .ref r), (1, .int px), (2, .int py)]) hx hb dX7_where_265 rfl hl (by decide) rfl (fun ls hl => ?_)
                            refine lv_iinc (v := nI (i + 1)) (lv' := [(4, .int (nI (i + 1))), (3, .int 1), (6, .int (iI (eCr n X Y i px.toInt py.toInt))), (5, .int (nI (nxt n i))), (0, .ref r), (1, .int px), (2, .int py)]) hx hb dX7_where_266 hl (k := 3) rfl (nI_add i 1) (by decide) rfl (fun ls hl => ?_)
                            refine lv_goto (tgt := 5) hx hb dX7_where_269 (by decide) ?_
                            have hl9 := lv_sub hl [0, 1, 4, 5, 6] rfl
                            have e9_3 : pI (par2 (eTg n X Y px.toInt py.toInt) (i + 1)) = (1 : Int32) := by first | exact zp_iff (par2_n (sk_tg (by omega)).1) | exact zp_iff (par2_n (by unfold eTg; omega)) | exact zp_t ((par2_y (P := (eTg n X Y px.toInt py.toInt)) (i := i) (by have h9 := hne (by omega); unfold eTg; omega)).mpr (by assumption)) | exact zp_f (fun q => (par2_y (P := (eTg n X Y px.toInt py.toInt)) (i := i) (by have h9 := hne (by omega); unfold eTg; omega)).mp q (by assumption))
                            have hl9 : lv_has ls 7 [(4, .int (nI (i + 1))), (3, .int (pI (par2 (eTg n X Y px.toInt py.toInt) (i + 1)))), (0, .ref r), (1, .int px), (2, .int py)] := by rw [e9_3]; exact hl9
                            exact ih_5 (i + 1) H locs ls (by omega) (by omega) (by intro k hk; rcases Nat.lt_or_ge k i with h | h; exact hno k h; have e9 : k = i := (by omega); subst e9; first | exact (sk_tg (by omega)).2 | (unfold eOn onS; unfold eCr at *; omega)) hP hD hS hl9
                      · have c_11 : (Y i).toInt < (Y (nxt n i)).toInt := zc_nle rfl rfl c_11
                        refine lv_iconst (v := 1) hx hb dX7_where_248 (by decide) ?_
                        refine lv_goto (tgt := 253) hx hb dX7_where_249 (by decide) ?_
                        refine lv_icmp_ne (tgt := 266) hx hb dX7_where_253 (by decide) (fun c_14 => ?_) (fun c_14 => ?_)
                        · refine lv_iinc (v := nI (i + 1)) (lv' := [(4, .int (nI (i + 1))), (6, .int (iI (eCr n X Y i px.toInt py.toInt))), (5, .int (nI (nxt n i))), (3, .int (pI (par2 (eTg n X Y px.toInt py.toInt) i))), (0, .ref r), (1, .int px), (2, .int py)]) hx hb dX7_where_266 hl (k := 2) rfl (nI_add i 1) (by decide) rfl (fun ls hl => ?_)
                          refine lv_goto (tgt := 5) hx hb dX7_where_269 (by decide) ?_
                          have hl9 := lv_sub hl [0, 3, 4, 5, 6] rfl
                          have e9_3 : pI (par2 (eTg n X Y px.toInt py.toInt) (i + 1)) = (pI (par2 (eTg n X Y px.toInt py.toInt) i) : Int32) := by first | exact zp_iff (par2_n (sk_tg (by omega)).1) | exact zp_iff (par2_n (by unfold eTg; omega)) | exact zp_t ((par2_y (P := (eTg n X Y px.toInt py.toInt)) (i := i) (by have h9 := hne (by omega); unfold eTg; omega)).mpr (by assumption)) | exact zp_f (fun q => (par2_y (P := (eTg n X Y px.toInt py.toInt)) (i := i) (by have h9 := hne (by omega); unfold eTg; omega)).mp q (by assumption))
                          have hl9 : lv_has ls 7 [(4, .int (nI (i + 1))), (3, .int (pI (par2 (eTg n X Y px.toInt py.toInt) (i + 1)))), (0, .ref r), (1, .int px), (2, .int py)] := by rw [e9_3]; exact hl9
                          exact ih_5 (i + 1) H locs ls (by omega) (by omega) (by intro k hk; rcases Nat.lt_or_ge k i with h | h; exact hno k h; have e9 : k = i := (by omega); subst e9; first | exact (sk_tg (by omega)).2 | (unfold eOn onS; unfold eCr at *; omega)) hP hD hS hl9
                        · exact absurd c_14 (by decide)
                    · have c_10 : 0 < (eCr n X Y i px.toInt py.toInt) := zc_nle (iI_toInt (by omega)) (by decide) c_10
                      refine lv_iconst (v := 1) hx hb dX7_where_226 (by decide) ?_
                      refine lv_goto (tgt := 231) hx hb dX7_where_227 (by decide) ?_
                      refine lv_aload_n hx hb dX7_where_231 rfl (lv_at hl 4 rfl) ?_
                      refine va_get (D := (dC, dI)) (ci := 6) (v := .ref ry) (C := RX7) (T := TX7) (N := 4) hx hb hts inX7 hown hK hP 0 rfl rfl 1 (by decide) (hts _ mw_168) (fun _ h9 => h9) rfl dX7_where_232 ?_
                      refine lv_iload hx hb dX7_where_235 (lv_at hl 1 rfl) ?_
                      refine z_iald hx hb hK hP 2 0 rfl rfl (e := nxt n i) rfl (by omega) (by omega) dX7_where_237 ?_
                      refine lv_aload_n hx hb dX7_where_238 rfl (lv_at hl 4 rfl) ?_
                      refine va_get (D := (dC, dI)) (ci := 6) (v := .ref ry) (C := RX7) (T := TX7) (N := 4) hx hb hts inX7 hown hK hP 0 rfl rfl 1 (by decide) (hts _ mw_168) (fun _ h9 => h9) rfl dX7_where_239 ?_
                      refine lv_iload hx hb dX7_where_242 (lv_at hl 2 rfl) ?_
                      refine z_iald hx hb hK hP 2 0 rfl rfl (e := i) rfl (by omega) (by omega) dX7_where_244 ?_
                      refine lv_icmp_le (tgt := 252) hx hb dX7_where_245 (by decide) (fun c_15 => ?_) (fun c_15 => ?_)
                      · have c_15 : (Y (nxt n i)).toInt ≤ (Y i).toInt := zc_le rfl rfl c_15
                        refine lv_iconst (v := 0) hx hb dX7_where_252 (by decide) ?_
                        refine lv_icmp_ne (tgt := 266) hx hb dX7_where_253 (by decide) (fun c_16 => ?_) (fun c_16 => ?_)
                        · refine lv_iinc (v := nI (i + 1)) (lv' := [(4, .int (nI (i + 1))), (6, .int (iI (eCr n X Y i px.toInt py.toInt))), (5, .int (nI (nxt n i))), (3, .int (pI (par2 (eTg n X Y px.toInt py.toInt) i))), (0, .ref r), (1, .int px), (2, .int py)]) hx hb dX7_where_266 hl (k := 2) rfl (nI_add i 1) (by decide) rfl (fun ls hl => ?_)
                          refine lv_goto (tgt := 5) hx hb dX7_where_269 (by decide) ?_
                          have hl9 := lv_sub hl [0, 3, 4, 5, 6] rfl
                          have e9_3 : pI (par2 (eTg n X Y px.toInt py.toInt) (i + 1)) = (pI (par2 (eTg n X Y px.toInt py.toInt) i) : Int32) := by first | exact zp_iff (par2_n (sk_tg (by omega)).1) | exact zp_iff (par2_n (by unfold eTg; omega)) | exact zp_t ((par2_y (P := (eTg n X Y px.toInt py.toInt)) (i := i) (by have h9 := hne (by omega); unfold eTg; omega)).mpr (by assumption)) | exact zp_f (fun q => (par2_y (P := (eTg n X Y px.toInt py.toInt)) (i := i) (by have h9 := hne (by omega); unfold eTg; omega)).mp q (by assumption))
                          have hl9 : lv_has ls 7 [(4, .int (nI (i + 1))), (3, .int (pI (par2 (eTg n X Y px.toInt py.toInt) (i + 1)))), (0, .ref r), (1, .int px), (2, .int py)] := by rw [e9_3]; exact hl9
                          exact ih_5 (i + 1) H locs ls (by omega) (by omega) (by intro k hk; rcases Nat.lt_or_ge k i with h | h; exact hno k h; have e9 : k = i := (by omega); subst e9; first | exact (sk_tg (by omega)).2 | (unfold eOn onS; unfold eCr at *; omega)) hP hD hS hl9
                        · exact absurd c_16 (by decide)
                      · have c_15 : (Y i).toInt < (Y (nxt n i)).toInt := zc_nle rfl rfl c_15
                        refine lv_iconst (v := 1) hx hb dX7_where_248 (by decide) ?_
                        refine lv_goto (tgt := 253) hx hb dX7_where_249 (by decide) ?_
                        refine lv_icmp_ne (tgt := 266) hx hb dX7_where_253 (by decide) (fun c_17 => ?_) (fun c_17 => ?_)
                        · exact absurd (by decide) c_17
                        · refine lv_iload_n hx hb dX7_where_256 rfl (lv_at hl 3 rfl) ?_
                          refine lv_if_ne (tgt := 264) hx hb dX7_where_257 (by decide) (fun c_18 => ?_) (fun c_18 => ?_)
                          · have c_18 : par2 (eTg n X Y px.toInt py.toInt) i := zp_1 c_18
                            refine lv_iconst (v := 0) hx hb dX7_where_264 (by decide) ?_
                            refine lv_istore_n (lv' := [(3, .int 0), (6, .int (iI (eCr n X Y i px.toInt py.toInt))), (5, .int (nI (nxt n i))), (4, .int (nI i)), (0, .ref r), (1, .int px), (2, .int py)]) hx hb dX7_where_265 rfl hl (by decide) rfl (fun ls hl => ?_)
                            refine lv_iinc (v := nI (i + 1)) (lv' := [(4, .int (nI (i + 1))), (3, .int 0), (6, .int (iI (eCr n X Y i px.toInt py.toInt))), (5, .int (nI (nxt n i))), (0, .ref r), (1, .int px), (2, .int py)]) hx hb dX7_where_266 hl (k := 3) rfl (nI_add i 1) (by decide) rfl (fun ls hl => ?_)
                            refine lv_goto (tgt := 5) hx hb dX7_where_269 (by decide) ?_
                            have hl9 := lv_sub hl [0, 1, 4, 5, 6] rfl
                            have e9_3 : pI (par2 (eTg n X Y px.toInt py.toInt) (i + 1)) = (0 : Int32) := by first | exact zp_iff (par2_n (sk_tg (by omega)).1) | exact zp_iff (par2_n (by unfold eTg; omega)) | exact zp_t ((par2_y (P := (eTg n X Y px.toInt py.toInt)) (i := i) (by have h9 := hne (by omega); unfold eTg; omega)).mpr (by assumption)) | exact zp_f (fun q => (par2_y (P := (eTg n X Y px.toInt py.toInt)) (i := i) (by have h9 := hne (by omega); unfold eTg; omega)).mp q (by assumption))
                            have hl9 : lv_has ls 7 [(4, .int (nI (i + 1))), (3, .int (pI (par2 (eTg n X Y px.toInt py.toInt) (i + 1)))), (0, .ref r), (1, .int px), (2, .int py)] := by rw [e9_3]; exact hl9
                            exact ih_5 (i + 1) H locs ls (by omega) (by omega) (by intro k hk; rcases Nat.lt_or_ge k i with h | h; exact hno k h; have e9 : k = i := (by omega); subst e9; first | exact (sk_tg (by omega)).2 | (unfold eOn onS; unfold eCr at *; omega)) hP hD hS hl9
                          · have c_18 : ¬ (par2 (eTg n X Y px.toInt py.toInt) i) := zp_0 c_18
                            refine lv_iconst (v := 1) hx hb dX7_where_260 (by decide) ?_
                            refine lv_goto (tgt := 265) hx hb dX7_where_261 (by decide) ?_
                            refine lv_istore_n (lv' := [(3, .int 1), (6, .int (iI (eCr n X Y i px.toInt py.toInt))), (5, .int (nI (nxt n i))), (4, .int (nI i)), (0, .ref r), (1, .int px), (2, .int py)]) hx hb dX7_where_265 rfl hl (by decide) rfl (fun ls hl => ?_)
                            refine lv_iinc (v := nI (i + 1)) (lv' := [(4, .int (nI (i + 1))), (3, .int 1), (6, .int (iI (eCr n X Y i px.toInt py.toInt))), (5, .int (nI (nxt n i))), (0, .ref r), (1, .int px), (2, .int py)]) hx hb dX7_where_266 hl (k := 3) rfl (nI_add i 1) (by decide) rfl (fun ls hl => ?_)
                            refine lv_goto (tgt := 5) hx hb dX7_where_269 (by decide) ?_
                            have hl9 := lv_sub hl [0, 1, 4, 5, 6] rfl
                            have e9_3 : pI (par2 (eTg n X Y px.toInt py.toInt) (i + 1)) = (1 : Int32) := by first | exact zp_iff (par2_n (sk_tg (by omega)).1) | exact zp_iff (par2_n (by unfold eTg; omega)) | exact zp_t ((par2_y (P := (eTg n X Y px.toInt py.toInt)) (i := i) (by have h9 := hne (by omega); unfold eTg; omega)).mpr (by assumption)) | exact zp_f (fun q => (par2_y (P := (eTg n X Y px.toInt py.toInt)) (i := i) (by have h9 := hne (by omega); unfold eTg; omega)).mp q (by assumption))
                            have hl9 : lv_has ls 7 [(4, .int (nI (i + 1))), (3, .int (pI (par2 (eTg n X Y px.toInt py.toInt) (i + 1)))), (0, .ref r), (1, .int px), (2, .int py)] := by rw [e9_3]; exact hl9
                            exact ih_5 (i + 1) H locs ls (by omega) (by omega) (by intro k hk; rcases Nat.lt_or_ge k i with h | h; exact hno k h; have e9 : k = i := (by omega); subst e9; first | exact (sk_tg (by omega)).2 | (unfold eOn onS; unfold eCr at *; omega)) hP hD hS hl9
              · have c_6 : py.toInt < (Y i).toInt := zc_nle rfl rfl c_6
                refine lv_iconst (v := 1) hx hb dX7_where_197 (by decide) ?_
                refine lv_goto (tgt := 202) hx hb dX7_where_198 (by decide) ?_
                refine lv_aload_n hx hb dX7_where_202 rfl (lv_at hl 4 rfl) ?_
                refine va_get (D := (dC, dI)) (ci := 6) (v := .ref ry) (C := RX7) (T := TX7) (N := 4) hx hb hts inX7 hown hK hP 0 rfl rfl 1 (by decide) (hts _ mw_168) (fun _ h9 => h9) rfl dX7_where_203 ?_
                refine lv_iload hx hb dX7_where_206 (lv_at hl 1 rfl) ?_
                refine z_iald hx hb hK hP 2 0 rfl rfl (e := nxt n i) rfl (by omega) (by omega) dX7_where_208 ?_
                refine lv_iload_n hx hb dX7_where_209 rfl (lv_at hl 6 rfl) ?_
                refine lv_icmp_le (tgt := 217) hx hb dX7_where_210 (by decide) (fun c_19 => ?_) (fun c_19 => ?_)
                · have c_19 : (Y (nxt n i)).toInt ≤ py.toInt := zc_le rfl rfl c_19
                  refine lv_iconst (v := 0) hx hb dX7_where_217 (by decide) ?_
                  refine lv_icmp_eq (tgt := 266) hx hb dX7_where_218 (by decide) (fun c_20 => ?_) (fun c_20 => ?_)
                  · exact absurd c_20 (by decide)
                  · refine lv_iload hx hb dX7_where_221 (lv_at hl 0 rfl) ?_
                    refine lv_if_le (tgt := 230) hx hb dX7_where_223 (by decide) (fun c_21 => ?_) (fun c_21 => ?_)
                    · have c_21 : (eCr n X Y i px.toInt py.toInt) ≤ 0 := zc_le (iI_toInt (by omega)) (by decide) c_21
                      refine lv_iconst (v := 0) hx hb dX7_where_230 (by decide) ?_
                      refine lv_aload_n hx hb dX7_where_231 rfl (lv_at hl 4 rfl) ?_
                      refine va_get (D := (dC, dI)) (ci := 6) (v := .ref ry) (C := RX7) (T := TX7) (N := 4) hx hb hts inX7 hown hK hP 0 rfl rfl 1 (by decide) (hts _ mw_168) (fun _ h9 => h9) rfl dX7_where_232 ?_
                      refine lv_iload hx hb dX7_where_235 (lv_at hl 1 rfl) ?_
                      refine z_iald hx hb hK hP 2 0 rfl rfl (e := nxt n i) rfl (by omega) (by omega) dX7_where_237 ?_
                      refine lv_aload_n hx hb dX7_where_238 rfl (lv_at hl 4 rfl) ?_
                      refine va_get (D := (dC, dI)) (ci := 6) (v := .ref ry) (C := RX7) (T := TX7) (N := 4) hx hb hts inX7 hown hK hP 0 rfl rfl 1 (by decide) (hts _ mw_168) (fun _ h9 => h9) rfl dX7_where_239 ?_
                      refine lv_iload hx hb dX7_where_242 (lv_at hl 2 rfl) ?_
                      refine z_iald hx hb hK hP 2 0 rfl rfl (e := i) rfl (by omega) (by omega) dX7_where_244 ?_
                      refine lv_icmp_le (tgt := 252) hx hb dX7_where_245 (by decide) (fun c_22 => ?_) (fun c_22 => ?_)
                      · have c_22 : (Y (nxt n i)).toInt ≤ (Y i).toInt := zc_le rfl rfl c_22
                        refine lv_iconst (v := 0) hx hb dX7_where_252 (by decide) ?_
                        refine lv_icmp_ne (tgt := 266) hx hb dX7_where_253 (by decide) (fun c_23 => ?_) (fun c_23 => ?_)
                        · exact absurd (by decide) c_23
                        · refine lv_iload_n hx hb dX7_where_256 rfl (lv_at hl 3 rfl) ?_
                          refine lv_if_ne (tgt := 264) hx hb dX7_where_257 (by decide) (fun c_24 => ?_) (fun c_24 => ?_)
                          · have c_24 : par2 (eTg n X Y px.toInt py.toInt) i := zp_1 c_24
                            refine lv_iconst (v := 0) hx hb dX7_where_264 (by decide) ?_
                            refine lv_istore_n (lv' := [(3, .int 0), (6, .int (iI (eCr n X Y i px.toInt py.toInt))), (5, .int (nI (nxt n i))), (4, .int (nI i)), (0, .ref r), (1, .int px), (2, .int py)]) hx hb dX7_where_265 rfl hl (by decide) rfl (fun ls hl => ?_)
                            refine lv_iinc (v := nI (i + 1)) (lv' := [(4, .int (nI (i + 1))), (3, .int 0), (6, .int (iI (eCr n X Y i px.toInt py.toInt))), (5, .int (nI (nxt n i))), (0, .ref r), (1, .int px), (2, .int py)]) hx hb dX7_where_266 hl (k := 3) rfl (nI_add i 1) (by decide) rfl (fun ls hl => ?_)
                            refine lv_goto (tgt := 5) hx hb dX7_where_269 (by decide) ?_
                            have hl9 := lv_sub hl [0, 1, 4, 5, 6] rfl
                            have e9_3 : pI (par2 (eTg n X Y px.toInt py.toInt) (i + 1)) = (0 : Int32) := by first | exact zp_iff (par2_n (sk_tg (by omega)).1) | exact zp_iff (par2_n (by unfold eTg; omega)) | exact zp_t ((par2_y (P := (eTg n X Y px.toInt py.toInt)) (i := i) (by have h9 := hne (by omega); unfold eTg; omega)).mpr (by assumption)) | exact zp_f (fun q => (par2_y (P := (eTg n X Y px.toInt py.toInt)) (i := i) (by have h9 := hne (by omega); unfold eTg; omega)).mp q (by assumption))
                            have hl9 : lv_has ls 7 [(4, .int (nI (i + 1))), (3, .int (pI (par2 (eTg n X Y px.toInt py.toInt) (i + 1)))), (0, .ref r), (1, .int px), (2, .int py)] := by rw [e9_3]; exact hl9
                            exact ih_5 (i + 1) H locs ls (by omega) (by omega) (by intro k hk; rcases Nat.lt_or_ge k i with h | h; exact hno k h; have e9 : k = i := (by omega); subst e9; first | exact (sk_tg (by omega)).2 | (unfold eOn onS; unfold eCr at *; omega)) hP hD hS hl9
                          · have c_24 : ¬ (par2 (eTg n X Y px.toInt py.toInt) i) := zp_0 c_24
                            refine lv_iconst (v := 1) hx hb dX7_where_260 (by decide) ?_
                            refine lv_goto (tgt := 265) hx hb dX7_where_261 (by decide) ?_
                            refine lv_istore_n (lv' := [(3, .int 1), (6, .int (iI (eCr n X Y i px.toInt py.toInt))), (5, .int (nI (nxt n i))), (4, .int (nI i)), (0, .ref r), (1, .int px), (2, .int py)]) hx hb dX7_where_265 rfl hl (by decide) rfl (fun ls hl => ?_)
                            refine lv_iinc (v := nI (i + 1)) (lv' := [(4, .int (nI (i + 1))), (3, .int 1), (6, .int (iI (eCr n X Y i px.toInt py.toInt))), (5, .int (nI (nxt n i))), (0, .ref r), (1, .int px), (2, .int py)]) hx hb dX7_where_266 hl (k := 3) rfl (nI_add i 1) (by decide) rfl (fun ls hl => ?_)
                            refine lv_goto (tgt := 5) hx hb dX7_where_269 (by decide) ?_
                            have hl9 := lv_sub hl [0, 1, 4, 5, 6] rfl
                            have e9_3 : pI (par2 (eTg n X Y px.toInt py.toInt) (i + 1)) = (1 : Int32) := by first | exact zp_iff (par2_n (sk_tg (by omega)).1) | exact zp_iff (par2_n (by unfold eTg; omega)) | exact zp_t ((par2_y (P := (eTg n X Y px.toInt py.toInt)) (i := i) (by have h9 := hne (by omega); unfold eTg; omega)).mpr (by assumption)) | exact zp_f (fun q => (par2_y (P := (eTg n X Y px.toInt py.toInt)) (i := i) (by have h9 := hne (by omega); unfold eTg; omega)).mp q (by assumption))
                            have hl9 : lv_has ls 7 [(4, .int (nI (i + 1))), (3, .int (pI (par2 (eTg n X Y px.toInt py.toInt) (i + 1)))), (0, .ref r), (1, .int px), (2, .int py)] := by rw [e9_3]; exact hl9
                            exact ih_5 (i + 1) H locs ls (by omega) (by omega) (by intro k hk; rcases Nat.lt_or_ge k i with h | h; exact hno k h; have e9 : k = i := (by omega); subst e9; first | exact (sk_tg (by omega)).2 | (unfold eOn onS; unfold eCr at *; omega)) hP hD hS hl9
                      · have c_22 : (Y i).toInt < (Y (nxt n i)).toInt := zc_nle rfl rfl c_22
                        refine lv_iconst (v := 1) hx hb dX7_where_248 (by decide) ?_
                        refine lv_goto (tgt := 253) hx hb dX7_where_249 (by decide) ?_
                        refine lv_icmp_ne (tgt := 266) hx hb dX7_where_253 (by decide) (fun c_25 => ?_) (fun c_25 => ?_)
                        · refine lv_iinc (v := nI (i + 1)) (lv' := [(4, .int (nI (i + 1))), (6, .int (iI (eCr n X Y i px.toInt py.toInt))), (5, .int (nI (nxt n i))), (3, .int (pI (par2 (eTg n X Y px.toInt py.toInt) i))), (0, .ref r), (1, .int px), (2, .int py)]) hx hb dX7_where_266 hl (k := 2) rfl (nI_add i 1) (by decide) rfl (fun ls hl => ?_)
                          refine lv_goto (tgt := 5) hx hb dX7_where_269 (by decide) ?_
                          have hl9 := lv_sub hl [0, 3, 4, 5, 6] rfl
                          have e9_3 : pI (par2 (eTg n X Y px.toInt py.toInt) (i + 1)) = (pI (par2 (eTg n X Y px.toInt py.toInt) i) : Int32) := by first | exact zp_iff (par2_n (sk_tg (by omega)).1) | exact zp_iff (par2_n (by unfold eTg; omega)) | exact zp_t ((par2_y (P := (eTg n X Y px.toInt py.toInt)) (i := i) (by have h9 := hne (by omega); unfold eTg; omega)).mpr (by assumption)) | exact zp_f (fun q => (par2_y (P := (eTg n X Y px.toInt py.toInt)) (i := i) (by have h9 := hne (by omega); unfold eTg; omega)).mp q (by assumption))
                          have hl9 : lv_has ls 7 [(4, .int (nI (i + 1))), (3, .int (pI (par2 (eTg n X Y px.toInt py.toInt) (i + 1)))), (0, .ref r), (1, .int px), (2, .int py)] := by rw [e9_3]; exact hl9
                          exact ih_5 (i + 1) H locs ls (by omega) (by omega) (by intro k hk; rcases Nat.lt_or_ge k i with h | h; exact hno k h; have e9 : k = i := (by omega); subst e9; first | exact (sk_tg (by omega)).2 | (unfold eOn onS; unfold eCr at *; omega)) hP hD hS hl9
                        · exact absurd c_25 (by decide)
                    · have c_21 : 0 < (eCr n X Y i px.toInt py.toInt) := zc_nle (iI_toInt (by omega)) (by decide) c_21
                      refine lv_iconst (v := 1) hx hb dX7_where_226 (by decide) ?_
                      refine lv_goto (tgt := 231) hx hb dX7_where_227 (by decide) ?_
                      refine lv_aload_n hx hb dX7_where_231 rfl (lv_at hl 4 rfl) ?_
                      refine va_get (D := (dC, dI)) (ci := 6) (v := .ref ry) (C := RX7) (T := TX7) (N := 4) hx hb hts inX7 hown hK hP 0 rfl rfl 1 (by decide) (hts _ mw_168) (fun _ h9 => h9) rfl dX7_where_232 ?_
                      refine lv_iload hx hb dX7_where_235 (lv_at hl 1 rfl) ?_
                      refine z_iald hx hb hK hP 2 0 rfl rfl (e := nxt n i) rfl (by omega) (by omega) dX7_where_237 ?_
                      refine lv_aload_n hx hb dX7_where_238 rfl (lv_at hl 4 rfl) ?_
                      refine va_get (D := (dC, dI)) (ci := 6) (v := .ref ry) (C := RX7) (T := TX7) (N := 4) hx hb hts inX7 hown hK hP 0 rfl rfl 1 (by decide) (hts _ mw_168) (fun _ h9 => h9) rfl dX7_where_239 ?_
                      refine lv_iload hx hb dX7_where_242 (lv_at hl 2 rfl) ?_
                      refine z_iald hx hb hK hP 2 0 rfl rfl (e := i) rfl (by omega) (by omega) dX7_where_244 ?_
                      refine lv_icmp_le (tgt := 252) hx hb dX7_where_245 (by decide) (fun c_26 => ?_) (fun c_26 => ?_)
                      · have c_26 : (Y (nxt n i)).toInt ≤ (Y i).toInt := zc_le rfl rfl c_26
                        refine lv_iconst (v := 0) hx hb dX7_where_252 (by decide) ?_
                        refine lv_icmp_ne (tgt := 266) hx hb dX7_where_253 (by decide) (fun c_27 => ?_) (fun c_27 => ?_)
                        · refine lv_iinc (v := nI (i + 1)) (lv' := [(4, .int (nI (i + 1))), (6, .int (iI (eCr n X Y i px.toInt py.toInt))), (5, .int (nI (nxt n i))), (3, .int (pI (par2 (eTg n X Y px.toInt py.toInt) i))), (0, .ref r), (1, .int px), (2, .int py)]) hx hb dX7_where_266 hl (k := 2) rfl (nI_add i 1) (by decide) rfl (fun ls hl => ?_)
                          refine lv_goto (tgt := 5) hx hb dX7_where_269 (by decide) ?_
                          have hl9 := lv_sub hl [0, 3, 4, 5, 6] rfl
                          have e9_3 : pI (par2 (eTg n X Y px.toInt py.toInt) (i + 1)) = (pI (par2 (eTg n X Y px.toInt py.toInt) i) : Int32) := by first | exact zp_iff (par2_n (sk_tg (by omega)).1) | exact zp_iff (par2_n (by unfold eTg; omega)) | exact zp_t ((par2_y (P := (eTg n X Y px.toInt py.toInt)) (i := i) (by have h9 := hne (by omega); unfold eTg; omega)).mpr (by assumption)) | exact zp_f (fun q => (par2_y (P := (eTg n X Y px.toInt py.toInt)) (i := i) (by have h9 := hne (by omega); unfold eTg; omega)).mp q (by assumption))
                          have hl9 : lv_has ls 7 [(4, .int (nI (i + 1))), (3, .int (pI (par2 (eTg n X Y px.toInt py.toInt) (i + 1)))), (0, .ref r), (1, .int px), (2, .int py)] := by rw [e9_3]; exact hl9
                          exact ih_5 (i + 1) H locs ls (by omega) (by omega) (by intro k hk; rcases Nat.lt_or_ge k i with h | h; exact hno k h; have e9 : k = i := (by omega); subst e9; first | exact (sk_tg (by omega)).2 | (unfold eOn onS; unfold eCr at *; omega)) hP hD hS hl9
                        · exact absurd c_27 (by decide)
                      · have c_26 : (Y i).toInt < (Y (nxt n i)).toInt := zc_nle rfl rfl c_26
                        refine lv_iconst (v := 1) hx hb dX7_where_248 (by decide) ?_
                        refine lv_goto (tgt := 253) hx hb dX7_where_249 (by decide) ?_
                        refine lv_icmp_ne (tgt := 266) hx hb dX7_where_253 (by decide) (fun c_28 => ?_) (fun c_28 => ?_)
                        · exact absurd (by decide) c_28
                        · refine lv_iload_n hx hb dX7_where_256 rfl (lv_at hl 3 rfl) ?_
                          refine lv_if_ne (tgt := 264) hx hb dX7_where_257 (by decide) (fun c_29 => ?_) (fun c_29 => ?_)
                          · have c_29 : par2 (eTg n X Y px.toInt py.toInt) i := zp_1 c_29
                            refine lv_iconst (v := 0) hx hb dX7_where_264 (by decide) ?_
                            refine lv_istore_n (lv' := [(3, .int 0), (6, .int (iI (eCr n X Y i px.toInt py.toInt))), (5, .int (nI (nxt n i))), (4, .int (nI i)), (0, .ref r), (1, .int px), (2, .int py)]) hx hb dX7_where_265 rfl hl (by decide) rfl (fun ls hl => ?_)
                            refine lv_iinc (v := nI (i + 1)) (lv' := [(4, .int (nI (i + 1))), (3, .int 0), (6, .int (iI (eCr n X Y i px.toInt py.toInt))), (5, .int (nI (nxt n i))), (0, .ref r), (1, .int px), (2, .int py)]) hx hb dX7_where_266 hl (k := 3) rfl (nI_add i 1) (by decide) rfl (fun ls hl => ?_)
                            refine lv_goto (tgt := 5) hx hb dX7_where_269 (by decide) ?_
                            have hl9 := lv_sub hl [0, 1, 4, 5, 6] rfl
                            have e9_3 : pI (par2 (eTg n X Y px.toInt py.toInt) (i + 1)) = (0 : Int32) := by first | exact zp_iff (par2_n (sk_tg (by omega)).1) | exact zp_iff (par2_n (by unfold eTg; omega)) | exact zp_t ((par2_y (P := (eTg n X Y px.toInt py.toInt)) (i := i) (by have h9 := hne (by omega); unfold eTg; omega)).mpr (by assumption)) | exact zp_f (fun q => (par2_y (P := (eTg n X Y px.toInt py.toInt)) (i := i) (by have h9 := hne (by omega); unfold eTg; omega)).mp q (by assumption))
                            have hl9 : lv_has ls 7 [(4, .int (nI (i + 1))), (3, .int (pI (par2 (eTg n X Y px.toInt py.toInt) (i + 1)))), (0, .ref r), (1, .int px), (2, .int py)] := by rw [e9_3]; exact hl9
                            exact ih_5 (i + 1) H locs ls (by omega) (by omega) (by intro k hk; rcases Nat.lt_or_ge k i with h | h; exact hno k h; have e9 : k = i := (by omega); subst e9; first | exact (sk_tg (by omega)).2 | (unfold eOn onS; unfold eCr at *; omega)) hP hD hS hl9
                          · have c_29 : ¬ (par2 (eTg n X Y px.toInt py.toInt) i) := zp_0 c_29
                            refine lv_iconst (v := 1) hx hb dX7_where_260 (by decide) ?_
                            refine lv_goto (tgt := 265) hx hb dX7_where_261 (by decide) ?_
                            refine lv_istore_n (lv' := [(3, .int 1), (6, .int (iI (eCr n X Y i px.toInt py.toInt))), (5, .int (nI (nxt n i))), (4, .int (nI i)), (0, .ref r), (1, .int px), (2, .int py)]) hx hb dX7_where_265 rfl hl (by decide) rfl (fun ls hl => ?_)
                            refine lv_iinc (v := nI (i + 1)) (lv' := [(4, .int (nI (i + 1))), (3, .int 1), (6, .int (iI (eCr n X Y i px.toInt py.toInt))), (5, .int (nI (nxt n i))), (0, .ref r), (1, .int px), (2, .int py)]) hx hb dX7_where_266 hl (k := 3) rfl (nI_add i 1) (by decide) rfl (fun ls hl => ?_)
                            refine lv_goto (tgt := 5) hx hb dX7_where_269 (by decide) ?_
                            have hl9 := lv_sub hl [0, 1, 4, 5, 6] rfl
                            have e9_3 : pI (par2 (eTg n X Y px.toInt py.toInt) (i + 1)) = (1 : Int32) := by first | exact zp_iff (par2_n (sk_tg (by omega)).1) | exact zp_iff (par2_n (by unfold eTg; omega)) | exact zp_t ((par2_y (P := (eTg n X Y px.toInt py.toInt)) (i := i) (by have h9 := hne (by omega); unfold eTg; omega)).mpr (by assumption)) | exact zp_f (fun q => (par2_y (P := (eTg n X Y px.toInt py.toInt)) (i := i) (by have h9 := hne (by omega); unfold eTg; omega)).mp q (by assumption))
                            have hl9 : lv_has ls 7 [(4, .int (nI (i + 1))), (3, .int (pI (par2 (eTg n X Y px.toInt py.toInt) (i + 1)))), (0, .ref r), (1, .int px), (2, .int py)] := by rw [e9_3]; exact hl9
                            exact ih_5 (i + 1) H locs ls (by omega) (by omega) (by intro k hk; rcases Nat.lt_or_ge k i with h | h; exact hno k h; have e9 : k = i := (by omega); subst e9; first | exact (sk_tg (by omega)).2 | (unfold eOn onS; unfold eCr at *; omega)) hP hD hS hl9
                · have c_19 : py.toInt < (Y (nxt n i)).toInt := zc_nle rfl rfl c_19
                  refine lv_iconst (v := 1) hx hb dX7_where_213 (by decide) ?_
                  refine lv_goto (tgt := 218) hx hb dX7_where_214 (by decide) ?_
                  refine lv_icmp_eq (tgt := 266) hx hb dX7_where_218 (by decide) (fun c_30 => ?_) (fun c_30 => ?_)
                  · refine lv_iinc (v := nI (i + 1)) (lv' := [(4, .int (nI (i + 1))), (6, .int (iI (eCr n X Y i px.toInt py.toInt))), (5, .int (nI (nxt n i))), (3, .int (pI (par2 (eTg n X Y px.toInt py.toInt) i))), (0, .ref r), (1, .int px), (2, .int py)]) hx hb dX7_where_266 hl (k := 2) rfl (nI_add i 1) (by decide) rfl (fun ls hl => ?_)
                    refine lv_goto (tgt := 5) hx hb dX7_where_269 (by decide) ?_
                    have hl9 := lv_sub hl [0, 3, 4, 5, 6] rfl
                    have e9_3 : pI (par2 (eTg n X Y px.toInt py.toInt) (i + 1)) = (pI (par2 (eTg n X Y px.toInt py.toInt) i) : Int32) := by first | exact zp_iff (par2_n (sk_tg (by omega)).1) | exact zp_iff (par2_n (by unfold eTg; omega)) | exact zp_t ((par2_y (P := (eTg n X Y px.toInt py.toInt)) (i := i) (by have h9 := hne (by omega); unfold eTg; omega)).mpr (by assumption)) | exact zp_f (fun q => (par2_y (P := (eTg n X Y px.toInt py.toInt)) (i := i) (by have h9 := hne (by omega); unfold eTg; omega)).mp q (by assumption))
                    have hl9 : lv_has ls 7 [(4, .int (nI (i + 1))), (3, .int (pI (par2 (eTg n X Y px.toInt py.toInt) (i + 1)))), (0, .ref r), (1, .int px), (2, .int py)] := by rw [e9_3]; exact hl9
                    exact ih_5 (i + 1) H locs ls (by omega) (by omega) (by intro k hk; rcases Nat.lt_or_ge k i with h | h; exact hno k h; have e9 : k = i := (by omega); subst e9; first | exact (sk_tg (by omega)).2 | (unfold eOn onS; unfold eCr at *; omega)) hP hD hS hl9
                  · exact absurd (by decide) c_30
            refine lv_iload hx hb dX7_where_157 (lv_at hl 0 rfl) ?_
            refine lv_if_ne (tgt := 186) hx hb dX7_where_159 (by decide) (fun c_31 => ?_) (fun c_31 => ?_)
            · have c_31 : ¬ (eCr n X Y i px.toInt py.toInt) = 0 := zc_ne (iI_toInt (by omega)) (by decide) c_31
              exact hj_5 (by omega)
            · have c_31 : (eCr n X Y i px.toInt py.toInt) = 0 := zc_eq (iI_toInt (by omega)) (by decide) c_31
              refine lv_aload_n hx hb dX7_where_162 rfl (lv_at hl 4 rfl) ?_
              refine va_get (D := (dC, dI)) (ci := 6) (v := .ref rx) (C := RX7) (T := TX7) (N := 4) hx hb hts inX7 hown hK hP 0 rfl rfl 0 (by decide) (hts _ mw_161) (fun _ h9 => h9) rfl dX7_where_163 ?_
              refine lv_iload hx hb dX7_where_166 (lv_at hl 2 rfl) ?_
              refine z_iald hx hb hK hP 1 0 rfl rfl (e := i) rfl (by omega) (by omega) dX7_where_168 ?_
              refine lv_iload_n hx hb dX7_where_169 rfl (lv_at hl 5 rfl) ?_
              refine lv_icmp_le (tgt := 184) hx hb dX7_where_170 (by decide) (fun c_32 => ?_) (fun c_32 => ?_)
              · have c_32 : (X i).toInt ≤ px.toInt := zc_le rfl rfl c_32
                refine lv_iconst (v := 2) hx hb dX7_where_184 (by decide) ?_
                have hP9 := hP.sub (ws' := [(oc6 r (.ref rx) (.ref ry) (nI n) rg), (oa rx cI cap X), (oa ry cI cap Y)]) [0, 1, 2] rfl
                have hD9 := hD.sub (ws' := [(oc6 r (.ref rx) (.ref ry) (nI n) rg), (oa rx cI cap X), (oa ry cI cap Y)]) [0, 1, 2] (by decide) rfl
                rw [hQ9]
                exact W.iret (v := 2) hx hb hr (fun t ht hW => ⟨⟨congrArg (fun z => Outcome.returned (some (Value.int z))) (show (2 : Int32) = whr n X Y px.toInt py.toInt from (whr_2 ⟨i, by omega, by unfold eOn onS; unfold eCr at *; omega⟩).symm), by rw [ht]; exact hP9, hD9⟩, hS.F ht⟩) hS.2.2 dX7_where_185
              · have c_32 : px.toInt < (X i).toInt := zc_nle rfl rfl c_32
                refine lv_aload_n hx hb dX7_where_173 rfl (lv_at hl 4 rfl) ?_
                refine va_get (D := (dC, dI)) (ci := 6) (v := .ref rx) (C := RX7) (T := TX7) (N := 4) hx hb hts inX7 hown hK hP 0 rfl rfl 0 (by decide) (hts _ mw_161) (fun _ h9 => h9) rfl dX7_where_174 ?_
                refine lv_iload hx hb dX7_where_177 (lv_at hl 1 rfl) ?_
                refine z_iald hx hb hK hP 1 0 rfl rfl (e := nxt n i) rfl (by omega) (by omega) dX7_where_179 ?_
                refine lv_iload_n hx hb dX7_where_180 rfl (lv_at hl 5 rfl) ?_
                refine lv_icmp_gt (tgt := 186) hx hb dX7_where_181 (by decide) (fun c_33 => ?_) (fun c_33 => ?_)
                · have c_33 : px.toInt < (X (nxt n i)).toInt := zc_lt rfl rfl c_33
                  exact hj_5 (by omega)
                · have c_33 : (X (nxt n i)).toInt ≤ px.toInt := zc_nlt rfl rfl c_33
                  refine lv_iconst (v := 2) hx hb dX7_where_184 (by decide) ?_
                  have hP9 := hP.sub (ws' := [(oc6 r (.ref rx) (.ref ry) (nI n) rg), (oa rx cI cap X), (oa ry cI cap Y)]) [0, 1, 2] rfl
                  have hD9 := hD.sub (ws' := [(oc6 r (.ref rx) (.ref ry) (nI n) rg), (oa rx cI cap X), (oa ry cI cap Y)]) [0, 1, 2] (by decide) rfl
                  rw [hQ9]
                  exact W.iret (v := 2) hx hb hr (fun t ht hW => ⟨⟨congrArg (fun z => Outcome.returned (some (Value.int z))) (show (2 : Int32) = whr n X Y px.toInt py.toInt from (whr_2 ⟨i, by omega, by unfold eOn onS; unfold eCr at *; omega⟩).symm), by rw [ht]; exact hP9, hD9⟩, hS.F ht⟩) hS.2.2 dX7_where_185
          have hj_34 : (¬ ((py.toInt < (Y i).toInt ∧ py.toInt < (Y (nxt n i)).toInt) ∨ ((Y i).toInt < py.toInt ∧ (Y (nxt n i)).toInt < py.toInt))) → W p l e ((headSpec (.code yX7_where cX7_where 7 (some .int) :: ws0) ({ frames := 0, cells := 0, slots := 0, locals := 0 } : Room)).room) s m ([.ref r, .int px, .int py] : List Value).toArray below meth c H locs 0 0 Q9 (F0 m 79 ls []) := by
            intro hsk2
            refine lv_aload_n hx hb dX7_where_79 rfl (lv_at hl 3 rfl) ?_
            refine va_get (D := (dC, dI)) (ci := 6) (v := .ref rx) (C := RX7) (T := TX7) (N := 4) hx hb hts inX7 hown hK hP 0 rfl rfl 0 (by decide) (hts _ mw_161) (fun _ h9 => h9) rfl dX7_where_80 ?_
            refine lv_iload hx hb dX7_where_83 (lv_at hl 1 rfl) ?_
            refine z_iald hx hb hK hP 1 0 rfl rfl (e := i) rfl (by omega) (by omega) dX7_where_85 ?_
            refine lv_iload_n hx hb dX7_where_86 rfl (lv_at hl 4 rfl) ?_
            refine lv_icmp_ge (tgt := 104) hx hb dX7_where_87 (by decide) (fun c_35 => ?_) (fun c_35 => ?_)
            · have c_35 : px.toInt ≤ (X i).toInt := zc_le rfl rfl c_35
              exact hj_4 (by omega)
            · have c_35 : (X i).toInt < px.toInt := zc_nle rfl rfl c_35
              refine lv_aload_n hx hb dX7_where_90 rfl (lv_at hl 3 rfl) ?_
              refine va_get (D := (dC, dI)) (ci := 6) (v := .ref rx) (C := RX7) (T := TX7) (N := 4) hx hb hts inX7 hown hK hP 0 rfl rfl 0 (by decide) (hts _ mw_161) (fun _ h9 => h9) rfl dX7_where_91 ?_
              refine lv_iload hx hb dX7_where_94 (lv_at hl 0 rfl) ?_
              refine z_iald hx hb hK hP 1 0 rfl rfl (e := nxt n i) rfl (by omega) (by omega) dX7_where_96 ?_
              refine lv_iload_n hx hb dX7_where_97 rfl (lv_at hl 4 rfl) ?_
              refine lv_icmp_ge (tgt := 104) hx hb dX7_where_98 (by decide) (fun c_36 => ?_) (fun c_36 => ?_)
              · have c_36 : px.toInt ≤ (X (nxt n i)).toInt := zc_le rfl rfl c_36
                exact hj_4 (by omega)
              · have c_36 : (X (nxt n i)).toInt < px.toInt := zc_nle rfl rfl c_36
                refine lv_goto (tgt := 266) hx hb dX7_where_101 (by decide) ?_
                refine lv_iinc (v := nI (i + 1)) (lv' := [(4, .int (nI (i + 1))), (5, .int (nI (nxt n i))), (3, .int (pI (par2 (eTg n X Y px.toInt py.toInt) i))), (0, .ref r), (1, .int px), (2, .int py)]) hx hb dX7_where_266 hl (k := 1) rfl (nI_add i 1) (by decide) rfl (fun ls hl => ?_)
                refine lv_goto (tgt := 5) hx hb dX7_where_269 (by decide) ?_
                have hl9 := lv_sub hl [0, 2, 3, 4, 5] rfl
                have e9_3 : pI (par2 (eTg n X Y px.toInt py.toInt) (i + 1)) = (pI (par2 (eTg n X Y px.toInt py.toInt) i) : Int32) := by first | exact zp_iff (par2_n (sk_tg (by omega)).1) | exact zp_iff (par2_n (by unfold eTg; omega)) | exact zp_t ((par2_y (P := (eTg n X Y px.toInt py.toInt)) (i := i) (by have h9 := hne (by omega); unfold eTg; omega)).mpr (by assumption)) | exact zp_f (fun q => (par2_y (P := (eTg n X Y px.toInt py.toInt)) (i := i) (by have h9 := hne (by omega); unfold eTg; omega)).mp q (by assumption))
                have hl9 : lv_has ls 7 [(4, .int (nI (i + 1))), (3, .int (pI (par2 (eTg n X Y px.toInt py.toInt) (i + 1)))), (0, .ref r), (1, .int px), (2, .int py)] := by rw [e9_3]; exact hl9
                exact ih_5 (i + 1) H locs ls (by omega) (by omega) (by intro k hk; rcases Nat.lt_or_ge k i with h | h; exact hno k h; have e9 : k = i := (by omega); subst e9; first | exact (sk_tg (by omega)).2 | (unfold eOn onS; unfold eCr at *; omega)) hP hD hS hl9
          have hj_37 : (¬ (py.toInt < (Y i).toInt ∧ py.toInt < (Y (nxt n i)).toInt)) → W p l e ((headSpec (.code yX7_where cX7_where 7 (some .int) :: ws0) ({ frames := 0, cells := 0, slots := 0, locals := 0 } : Room)).room) s m ([.ref r, .int px, .int py] : List Value).toArray below meth c H locs 0 0 Q9 (F0 m 57 ls []) := by
            intro hsk1
            refine lv_aload_n hx hb dX7_where_57 rfl (lv_at hl 3 rfl) ?_
            refine va_get (D := (dC, dI)) (ci := 6) (v := .ref ry) (C := RX7) (T := TX7) (N := 4) hx hb hts inX7 hown hK hP 0 rfl rfl 1 (by decide) (hts _ mw_168) (fun _ h9 => h9) rfl dX7_where_58 ?_
            refine lv_iload hx hb dX7_where_61 (lv_at hl 1 rfl) ?_
            refine z_iald hx hb hK hP 2 0 rfl rfl (e := i) rfl (by omega) (by omega) dX7_where_63 ?_
            refine lv_iload_n hx hb dX7_where_64 rfl (lv_at hl 5 rfl) ?_
            refine lv_icmp_ge (tgt := 79) hx hb dX7_where_65 (by decide) (fun c_38 => ?_) (fun c_38 => ?_)
            · have c_38 : py.toInt ≤ (Y i).toInt := zc_le rfl rfl c_38
              exact hj_34 (by omega)
            · have c_38 : (Y i).toInt < py.toInt := zc_nle rfl rfl c_38
              refine lv_aload_n hx hb dX7_where_68 rfl (lv_at hl 3 rfl) ?_
              refine va_get (D := (dC, dI)) (ci := 6) (v := .ref ry) (C := RX7) (T := TX7) (N := 4) hx hb hts inX7 hown hK hP 0 rfl rfl 1 (by decide) (hts _ mw_168) (fun _ h9 => h9) rfl dX7_where_69 ?_
              refine lv_iload hx hb dX7_where_72 (lv_at hl 0 rfl) ?_
              refine z_iald hx hb hK hP 2 0 rfl rfl (e := nxt n i) rfl (by omega) (by omega) dX7_where_74 ?_
              refine lv_iload_n hx hb dX7_where_75 rfl (lv_at hl 5 rfl) ?_
              refine lv_icmp_lt (tgt := 266) hx hb dX7_where_76 (by decide) (fun c_39 => ?_) (fun c_39 => ?_)
              · have c_39 : (Y (nxt n i)).toInt < py.toInt := zc_lt rfl rfl c_39
                refine lv_iinc (v := nI (i + 1)) (lv' := [(4, .int (nI (i + 1))), (5, .int (nI (nxt n i))), (3, .int (pI (par2 (eTg n X Y px.toInt py.toInt) i))), (0, .ref r), (1, .int px), (2, .int py)]) hx hb dX7_where_266 hl (k := 1) rfl (nI_add i 1) (by decide) rfl (fun ls hl => ?_)
                refine lv_goto (tgt := 5) hx hb dX7_where_269 (by decide) ?_
                have hl9 := lv_sub hl [0, 2, 3, 4, 5] rfl
                have e9_3 : pI (par2 (eTg n X Y px.toInt py.toInt) (i + 1)) = (pI (par2 (eTg n X Y px.toInt py.toInt) i) : Int32) := by first | exact zp_iff (par2_n (sk_tg (by omega)).1) | exact zp_iff (par2_n (by unfold eTg; omega)) | exact zp_t ((par2_y (P := (eTg n X Y px.toInt py.toInt)) (i := i) (by have h9 := hne (by omega); unfold eTg; omega)).mpr (by assumption)) | exact zp_f (fun q => (par2_y (P := (eTg n X Y px.toInt py.toInt)) (i := i) (by have h9 := hne (by omega); unfold eTg; omega)).mp q (by assumption))
                have hl9 : lv_has ls 7 [(4, .int (nI (i + 1))), (3, .int (pI (par2 (eTg n X Y px.toInt py.toInt) (i + 1)))), (0, .ref r), (1, .int px), (2, .int py)] := by rw [e9_3]; exact hl9
                exact ih_5 (i + 1) H locs ls (by omega) (by omega) (by intro k hk; rcases Nat.lt_or_ge k i with h | h; exact hno k h; have e9 : k = i := (by omega); subst e9; first | exact (sk_tg (by omega)).2 | (unfold eOn onS; unfold eCr at *; omega)) hP hD hS hl9
              · have c_39 : py.toInt ≤ (Y (nxt n i)).toInt := zc_nlt rfl rfl c_39
                exact hj_34 (by omega)
          refine lv_aload_n hx hb dX7_where_35 rfl (lv_at hl 3 rfl) ?_
          refine va_get (D := (dC, dI)) (ci := 6) (v := .ref ry) (C := RX7) (T := TX7) (N := 4) hx hb hts inX7 hown hK hP 0 rfl rfl 1 (by decide) (hts _ mw_168) (fun _ h9 => h9) rfl dX7_where_36 ?_
          refine lv_iload hx hb dX7_where_39 (lv_at hl 1 rfl) ?_
          refine z_iald hx hb hK hP 2 0 rfl rfl (e := i) rfl (by omega) (by omega) dX7_where_41 ?_
          refine lv_iload_n hx hb dX7_where_42 rfl (lv_at hl 5 rfl) ?_
          refine lv_icmp_le (tgt := 57) hx hb dX7_where_43 (by decide) (fun c_40 => ?_) (fun c_40 => ?_)
          · have c_40 : (Y i).toInt ≤ py.toInt := zc_le rfl rfl c_40
            exact hj_37 (by omega)
          · have c_40 : py.toInt < (Y i).toInt := zc_nle rfl rfl c_40
            refine lv_aload_n hx hb dX7_where_46 rfl (lv_at hl 3 rfl) ?_
            refine va_get (D := (dC, dI)) (ci := 6) (v := .ref ry) (C := RX7) (T := TX7) (N := 4) hx hb hts inX7 hown hK hP 0 rfl rfl 1 (by decide) (hts _ mw_168) (fun _ h9 => h9) rfl dX7_where_47 ?_
            refine lv_iload hx hb dX7_where_50 (lv_at hl 0 rfl) ?_
            refine z_iald hx hb hK hP 2 0 rfl rfl (e := nxt n i) rfl (by omega) (by omega) dX7_where_52 ?_
            refine lv_iload_n hx hb dX7_where_53 rfl (lv_at hl 5 rfl) ?_
            refine lv_icmp_gt (tgt := 266) hx hb dX7_where_54 (by decide) (fun c_41 => ?_) (fun c_41 => ?_)
            · have c_41 : py.toInt < (Y (nxt n i)).toInt := zc_lt rfl rfl c_41
              refine lv_iinc (v := nI (i + 1)) (lv' := [(4, .int (nI (i + 1))), (5, .int (nI (nxt n i))), (3, .int (pI (par2 (eTg n X Y px.toInt py.toInt) i))), (0, .ref r), (1, .int px), (2, .int py)]) hx hb dX7_where_266 hl (k := 1) rfl (nI_add i 1) (by decide) rfl (fun ls hl => ?_)
              refine lv_goto (tgt := 5) hx hb dX7_where_269 (by decide) ?_
              have hl9 := lv_sub hl [0, 2, 3, 4, 5] rfl
              have e9_3 : pI (par2 (eTg n X Y px.toInt py.toInt) (i + 1)) = (pI (par2 (eTg n X Y px.toInt py.toInt) i) : Int32) := by first | exact zp_iff (par2_n (sk_tg (by omega)).1) | exact zp_iff (par2_n (by unfold eTg; omega)) | exact zp_t ((par2_y (P := (eTg n X Y px.toInt py.toInt)) (i := i) (by have h9 := hne (by omega); unfold eTg; omega)).mpr (by assumption)) | exact zp_f (fun q => (par2_y (P := (eTg n X Y px.toInt py.toInt)) (i := i) (by have h9 := hne (by omega); unfold eTg; omega)).mp q (by assumption))
              have hl9 : lv_has ls 7 [(4, .int (nI (i + 1))), (3, .int (pI (par2 (eTg n X Y px.toInt py.toInt) (i + 1)))), (0, .ref r), (1, .int px), (2, .int py)] := by rw [e9_3]; exact hl9
              exact ih_5 (i + 1) H locs ls (by omega) (by omega) (by intro k hk; rcases Nat.lt_or_ge k i with h | h; exact hno k h; have e9 : k = i := (by omega); subst e9; first | exact (sk_tg (by omega)).2 | (unfold eOn onS; unfold eCr at *; omega)) hP hD hS hl9
            · have c_41 : (Y (nxt n i)).toInt ≤ py.toInt := zc_nlt rfl rfl c_41
              exact hj_37 (by omega)
        refine lv_icmp_ge (tgt := 32) hx hb dX7_where_22 (by decide) (fun c_42 => ?_) (fun c_42 => ?_)
        · have c_42 : ((n : Nat) : Int) ≤ ((i + 1 : Nat) : Int) := zc_le (nI_toInt (by omega)) (nI_toInt (by omega)) c_42
          refine lv_iconst (v := 0) hx hb dX7_where_32 (by decide) ?_
          refine zz_i (v := nI (nxt n i)) (by first | (rw [nxt, if_pos (by omega)]) | (rw [nxt, if_neg (by omega)]; first | done | rfl)) ?_
          exact hj_3 
        · have c_42 : ((i + 1 : Nat) : Int) < ((n : Nat) : Int) := zc_nle (nI_toInt (by omega)) (nI_toInt (by omega)) c_42
          refine lv_iload hx hb dX7_where_25 (lv_at hl 0 rfl) ?_
          refine lv_iconst (v := 1) hx hb dX7_where_27 (by decide) ?_
          refine lv_iadd hx hb dX7_where_28 ?_
          refine zz_i (v := nI (i + 1)) (nI_add i 1) ?_
          refine lv_goto (tgt := 33) hx hb dX7_where_29 (by decide) ?_
          refine zz_i (v := nI (nxt n i)) (by first | (rw [nxt, if_pos (by omega)]) | (rw [nxt, if_neg (by omega)]; first | done | rfl)) ?_
          exact hj_3 
  have e9_3 : pI (par2 (eTg n X Y px.toInt py.toInt) 0) = (0 : Int32) := by exact zp_f (fun h => h)
  have hl9 : lv_has ls 7 [(4, .int (nI 0)), (3, .int (pI (par2 (eTg n X Y px.toInt py.toInt) 0))), (0, .ref r), (1, .int px), (2, .int py)] := by rw [e9_3]; exact lv_sub hl [0, 1, 2, 3, 4] rfl
  exact hl_5 _ 0 s.heap [] ls (Nat.lt_succ_self _) (by omega) (by intro k hk; omega) hP hD hS hl9
