set_option maxHeartbeats 4000000 in
set_option maxRecDepth 100000 in
theorem k_Law_leastArea (l : Launch) (dC : Nat → ClassId) (dI : Nat → Nat → Nat) (cI cZ cF : ClassId) (sz : Nat) (lw : Nat) (dr : Nat) (tg : Nat) (wy : Nat) (br : Nat) (bo : Nat) (aa : Nat) (n : Nat) (AR : Nat → Int32) (lim : Int32) (hn40 : n ≤ 40) : Met l yX4_leastArea (.code yX4_leastArea cX4_leastArea 5 (some .int) :: ws0) ({ frames := 0, cells := 0, slots := 0, locals := 0 } : Room) (va_Pc [.ref lw, .int (nI n), .int lim] (zPre (dC, dI) classes (zTy cI cZ cF) [(oc3 lw (.ref dr) (.ref tg) (.ref wy) (.ref br) (.ref bo) (.ref aa)), (oa aa cI 40 AR)] sz zXN)) (zQe (fun v9 t => ∃ (zb : Int32), v9 = (some (.int zb)) ∧ (bstS (fun k => (AR k).toInt.toNat) (fun k => ¬ (0 ≤ (AR k).toInt ∧ (AR k).toInt ≤ lim.toInt)) n zb) ∧ va_P (dC, dI) classes [(oc3 lw (.ref dr) (.ref tg) (.ref wy) (.ref br) (.ref bo) (.ref aa)), (oa aa cI 40 AR)] t.heap ∧ va_D (va_A [(oc3 lw (.ref dr) (.ref tg) (.ref wy) (.ref br) (.ref bo) (.ref aa)), (oa aa cI 40 AR)] sz) [(oc3 lw (.ref dr) (.ref tg) (.ref wy) (.ref br) (.ref bo) (.ref aa)), (oa aa cI 40 AR)]) (va_A [(oc3 lw (.ref dr) (.ref tg) (.ref wy) (.ref br) (.ref bo) (.ref aa)), (oa aa cI 40 AR)] sz)) 0 0 (va_A [(oc3 lw (.ref dr) (.ref tg) (.ref wy) (.ref br) (.ref bo) (.ref aa)), (oa aa cI 40 AR)] sz) := by
  refine Met.ofW (cc := cX4_leastArea) (maxL := 5) (ret := (some .int)) (by decide) rfl ?_
  intro p e s m args below meth c s₁ B hml hv
  obtain ⟨rfl, hsz, hP, hK, hD0, hXN⟩ := hv
  have hx := B.exec
  have hb := B.bytes
  have hr := B.returns
  have hts0 := atoms_spec (ws := .code yX4_leastArea cX4_leastArea 5 (some .int) :: ws0) B.pre
  have hts : ∀ w9 ∈ ws0, w9.before ([.ref lw, .int (nI n), .int lim] : List Value).toArray s = true := fun w9 h => hts0 w9 (List.mem_cons_of_mem _ h)
  have hown : s.vm.findClass "ScaleShop$Law" = some m.cls := findClass_of_methodNamed B.named
  have hlocks := B.notSynchronized
  subst hsz
  have hD := hD0.self (sz := s.heap.size)
  clear hD0
  generalize hAe : va_A [(oc3 lw (.ref dr) (.ref tg) (.ref wy) (.ref br) (.ref bo) (.ref aa)), (oa aa cI 40 AR)] s.heap.size = A at hD ⊢
  have hA : ∀ q : Nat, s.heap.size ≤ q → A q := fun q h => by rw [← hAe]; exact Or.inr h
  clear hAe
  have hS : va_S A s.heap s.heap [] := va_S.rf
  have hP : va_P (dC, dI) classes [(oc3 lw (.ref dr) (.ref tg) (.ref wy) (.ref br) (.ref bo) (.ref aa)), (oa aa cI 40 AR)] s.heap := hP
  obtain ⟨Q9, hQ9⟩ : ∃ Q9 : State → Prop, Q9 = MQ below (zQe (fun v9 t => ∃ (zb : Int32), v9 = (some (.int zb)) ∧ (bstS (fun k => (AR k).toInt.toNat) (fun k => ¬ (0 ≤ (AR k).toInt ∧ (AR k).toInt ≤ lim.toInt)) n zb) ∧ va_P (dC, dI) classes [(oc3 lw (.ref dr) (.ref tg) (.ref wy) (.ref br) (.ref bo) (.ref aa)), (oa aa cI 40 AR)] t.heap ∧ va_D A [(oc3 lw (.ref dr) (.ref tg) (.ref wy) (.ref br) (.ref bo) (.ref aa)), (oa aa cI 40 AR)]) A) ([.ref lw, .int (nI n), .int lim] : List Value).toArray s 0 0 A := ⟨_, rfl⟩
  rw [← hQ9]
  have hl := lv_entry ([.ref lw, .int (nI n), .int lim]) (n := 5) (Nat.le_of_ble_eq_true rfl)
  rw [lg_entry_eq]
  generalize (lg_sl ([.ref lw, .int (nI n), .int lim]) ++ List.replicate (5 - (lg_sl ([.ref lw, .int (nI n), .int lim])).length) Slot.unset).toArray = ls at hl ⊢
  have hl : lv_has ls 5 [(0, .ref lw), (1, .int (nI n)), (2, .int lim)] := hl
  refine lv_iconst (v := (-1)) hx hb dX4_leastArea_0 (by decide) ?_
  refine lv_istore_n (lv' := [(3, .int (-1)), (0, .ref lw), (1, .int (nI n)), (2, .int lim)]) hx hb dX4_leastArea_1 rfl hl (by decide) rfl (fun ls hl => ?_)
  refine lv_iconst (v := 0) hx hb dX4_leastArea_2 (by decide) ?_
  refine lv_istore (lv' := [(4, .int 0), (3, .int (-1)), (0, .ref lw), (1, .int (nI n)), (2, .int lim)]) hx hb dX4_leastArea_3 hl (by decide) rfl (fun ls hl => ?_)
  have hl_5 : ∀ (n9 : Nat) (k : Nat) (z8 : Int32) (H : Heap) (locs : List Loc) (ls : Array Slot), n - k < n9 → (k ≤ n) → (bstS (fun k => (AR k).toInt.toNat) (fun k => ¬ (0 ≤ (AR k).toInt ∧ (AR k).toInt ≤ lim.toInt)) k z8) → va_P (dC, dI) classes [(oc3 lw (.ref dr) (.ref tg) (.ref wy) (.ref br) (.ref bo) (.ref aa)), (oa aa cI 40 AR)] H → va_D A [(oc3 lw (.ref dr) (.ref tg) (.ref wy) (.ref br) (.ref bo) (.ref aa)), (oa aa cI 40 AR)] → va_S A s.heap H locs → lv_has ls 5 [(4, .int (nI k)), (3, .int z8), (0, .ref lw), (1, .int (nI n)), (2, .int lim)] → W p l e ((headSpec (.code yX4_leastArea cX4_leastArea 5 (some .int) :: ws0) ({ frames := 0, cells := 0, slots := 0, locals := 0 } : Room)).room) s m ([.ref lw, .int (nI n), .int lim] : List Value).toArray below meth c H locs 0 0 Q9 (F0 m 5 ls []) := by
    intro n9
    induction n9 with
    | zero => intro k z8 H locs ls hm; exact absurd hm (Nat.not_lt_zero _)
    | succ n9 ih_5 =>
      intro k z8 H locs ls hm hk hat hP hD hS hl
      refine lv_iload hx hb dX4_leastArea_5 (lv_at hl 0 rfl) ?_
      refine lv_iload_n hx hb dX4_leastArea_7 rfl (lv_at hl 3 rfl) ?_
      refine lv_icmp_ge (tgt := 62) hx hb dX4_leastArea_8 (by decide) (fun c_1 => ?_) (fun c_1 => ?_)
      · have c_1 : ((n : Nat) : Int) ≤ ((k : Nat) : Int) := zc_le (nI_toInt (by omega)) (nI_toInt (by omega)) c_1
        refine lv_iload_n hx hb dX4_leastArea_62 rfl (lv_at hl 1 rfl) ?_
        have hkn : k = n := (by omega)
        rw [hkn] at hat
        have hP9 := hP.sub (ws' := [(oc3 lw (.ref dr) (.ref tg) (.ref wy) (.ref br) (.ref bo) (.ref aa)), (oa aa cI 40 AR)]) [0, 1] rfl
        have hD9 := hD.sub (ws' := [(oc3 lw (.ref dr) (.ref tg) (.ref wy) (.ref br) (.ref bo) (.ref aa)), (oa aa cI 40 AR)]) [0, 1] (by decide) rfl
        rw [hQ9]
        exact W.iret (v := z8) hx hb hr (fun t ht hW => ⟨⟨_, rfl, z8, rfl, (hat), by rw [ht]; exact hP9, hD9⟩, hS.F ht⟩) hS.2.2 dX4_leastArea_63
      · have c_1 : ((k : Nat) : Int) < ((n : Nat) : Int) := zc_nle (nI_toInt (by omega)) (nI_toInt (by omega)) c_1
        refine lv_aload_n hx hb dX4_leastArea_11 rfl (lv_at hl 2 rfl) ?_
        refine va_get (D := (dC, dI)) (ci := 3) (v := .ref aa) (C := RX4) (T := TX4) (N := 6) hx hb hts inX4 hown hK hP 0 rfl rfl 5 (by decide) (hts _ mw_225) (fun _ h9 => h9) rfl dX4_leastArea_12 ?_
        refine lv_iload hx hb dX4_leastArea_15 (lv_at hl 0 rfl) ?_
        refine z_iald hx hb hK hP 1 0 rfl rfl (e := k) rfl (by omega) (by omega) dX4_leastArea_17 ?_
        refine lv_if_lt (tgt := 56) hx hb dX4_leastArea_18 (by decide) (fun c_2 => ?_) (fun c_2 => ?_)
        · have c_2 : (AR k).toInt < 0 := zc_lt rfl (by decide) c_2
          refine lv_iinc (v := nI (k + 1)) (lv' := [(4, .int (nI (k + 1))), (3, .int z8), (0, .ref lw), (1, .int (nI n)), (2, .int lim)]) hx hb dX4_leastArea_56 hl (k := 0) rfl (nI_add k 1) (by decide) rfl (fun ls hl => ?_)
          refine lv_goto (tgt := 5) hx hb dX4_leastArea_59 (by decide) ?_
          exact ih_5 (k + 1) z8 H locs ls (by omega) (by omega) (by first | exact bst_f hat (by omega) | exact bst_n hat (by omega) (by omega) (by omega) | exact bst_l hz9 hbk hbF hbm (by omega) (by show (AR k).toInt.toNat < (AR b9).toInt.toNat; omega) | exact bst_g hz9 hbk hbF hbm (by show (AR b9).toInt.toNat ≤ (AR k).toInt.toNat; omega)) hP hD hS (lv_sub hl [0, 1, 2, 3, 4] rfl)
        · have c_2 : 0 ≤ (AR k).toInt := zc_nlt rfl (by decide) c_2
          refine lv_aload_n hx hb dX4_leastArea_21 rfl (lv_at hl 2 rfl) ?_
          refine va_get (D := (dC, dI)) (ci := 3) (v := .ref aa) (C := RX4) (T := TX4) (N := 6) hx hb hts inX4 hown hK hP 0 rfl rfl 5 (by decide) (hts _ mw_225) (fun _ h9 => h9) rfl dX4_leastArea_22 ?_
          refine lv_iload hx hb dX4_leastArea_25 (lv_at hl 0 rfl) ?_
          refine z_iald hx hb hK hP 1 0 rfl rfl (e := k) rfl (by omega) (by omega) dX4_leastArea_27 ?_
          refine lv_iload_n hx hb dX4_leastArea_28 rfl (lv_at hl 4 rfl) ?_
          refine lv_icmp_gt (tgt := 56) hx hb dX4_leastArea_29 (by decide) (fun c_3 => ?_) (fun c_3 => ?_)
          · have c_3 : lim.toInt < (AR k).toInt := zc_lt rfl rfl c_3
            refine lv_iinc (v := nI (k + 1)) (lv' := [(4, .int (nI (k + 1))), (3, .int z8), (0, .ref lw), (1, .int (nI n)), (2, .int lim)]) hx hb dX4_leastArea_56 hl (k := 0) rfl (nI_add k 1) (by decide) rfl (fun ls hl => ?_)
            refine lv_goto (tgt := 5) hx hb dX4_leastArea_59 (by decide) ?_
            exact ih_5 (k + 1) z8 H locs ls (by omega) (by omega) (by first | exact bst_f hat (by omega) | exact bst_n hat (by omega) (by omega) (by omega) | exact bst_l hz9 hbk hbF hbm (by omega) (by show (AR k).toInt.toNat < (AR b9).toInt.toNat; omega) | exact bst_g hz9 hbk hbF hbm (by show (AR b9).toInt.toNat ≤ (AR k).toInt.toNat; omega)) hP hD hS (lv_sub hl [0, 1, 2, 3, 4] rfl)
          · have c_3 : (AR k).toInt ≤ lim.toInt := zc_nlt rfl rfl c_3
            refine lv_iload_n hx hb dX4_leastArea_32 rfl (lv_at hl 1 rfl) ?_
            refine lv_iconst (v := (-1)) hx hb dX4_leastArea_33 (by decide) ?_
            refine lv_icmp_eq (tgt := 53) hx hb dX4_leastArea_34 (by decide) (fun c_4 => ?_) (fun c_4 => ?_)
            · have c_4 : z8.toInt = (-1) := zc_eq rfl (by decide) c_4
              refine lv_iload hx hb dX4_leastArea_53 (lv_at hl 0 rfl) ?_
              refine lv_istore_n (lv' := [(3, .int (nI k)), (4, .int (nI k)), (0, .ref lw), (1, .int (nI n)), (2, .int lim)]) hx hb dX4_leastArea_55 rfl hl (by decide) rfl (fun ls hl => ?_)
              refine lv_iinc (v := nI (k + 1)) (lv' := [(4, .int (nI (k + 1))), (3, .int (nI k)), (0, .ref lw), (1, .int (nI n)), (2, .int lim)]) hx hb dX4_leastArea_56 hl (k := 1) rfl (nI_add k 1) (by decide) rfl (fun ls hl => ?_)
              refine lv_goto (tgt := 5) hx hb dX4_leastArea_59 (by decide) ?_
              exact ih_5 (k + 1) (nI k) H locs ls (by omega) (by omega) (by first | exact bst_f hat (by omega) | exact bst_n hat (by omega) (by omega) (by omega) | exact bst_l hz9 hbk hbF hbm (by omega) (by show (AR k).toInt.toNat < (AR b9).toInt.toNat; omega) | exact bst_g hz9 hbk hbF hbm (by show (AR b9).toInt.toNat ≤ (AR k).toInt.toNat; omega)) hP hD hS (lv_sub hl [0, 1, 2, 3, 4] rfl)
            · have c_4 : ¬ z8.toInt = (-1) := zc_ne rfl (by decide) c_4
              obtain ⟨b9, hz9, hbk, hbF, hbm⟩ := bst_get hat (by omega)
              have hbF9 : 0 ≤ (AR b9).toInt ∧ (AR b9).toInt ≤ lim.toInt := Classical.not_not.mp hbF
              refine lv_aload_n hx hb dX4_leastArea_37 rfl (lv_at hl 2 rfl) ?_
              refine va_get (D := (dC, dI)) (ci := 3) (v := .ref aa) (C := RX4) (T := TX4) (N := 6) hx hb hts inX4 hown hK hP 0 rfl rfl 5 (by decide) (hts _ mw_225) (fun _ h9 => h9) rfl dX4_leastArea_38 ?_
              refine lv_iload hx hb dX4_leastArea_41 (lv_at hl 0 rfl) ?_
              refine z_iald hx hb hK hP 1 0 rfl rfl (e := k) rfl (by omega) (by omega) dX4_leastArea_43 ?_
              refine lv_aload_n hx hb dX4_leastArea_44 rfl (lv_at hl 2 rfl) ?_
              refine va_get (D := (dC, dI)) (ci := 3) (v := .ref aa) (C := RX4) (T := TX4) (N := 6) hx hb hts inX4 hown hK hP 0 rfl rfl 5 (by decide) (hts _ mw_225) (fun _ h9 => h9) rfl dX4_leastArea_45 ?_
              refine lv_iload_n hx hb dX4_leastArea_48 rfl (lv_at hl 1 rfl) ?_
              refine zz_i (v := nI b9) (hz9) ?_
              refine z_iald hx hb hK hP 1 0 rfl rfl (e := b9) rfl (by omega) (by omega) dX4_leastArea_49 ?_
              refine lv_icmp_ge (tgt := 56) hx hb dX4_leastArea_50 (by decide) (fun c_5 => ?_) (fun c_5 => ?_)
              · have c_5 : (AR b9).toInt ≤ (AR k).toInt := zc_le rfl rfl c_5
                refine lv_iinc (v := nI (k + 1)) (lv' := [(4, .int (nI (k + 1))), (3, .int z8), (0, .ref lw), (1, .int (nI n)), (2, .int lim)]) hx hb dX4_leastArea_56 hl (k := 0) rfl (nI_add k 1) (by decide) rfl (fun ls hl => ?_)
                refine lv_goto (tgt := 5) hx hb dX4_leastArea_59 (by decide) ?_
                exact ih_5 (k + 1) z8 H locs ls (by omega) (by omega) (by first | exact bst_f hat (by omega) | exact bst_n hat (by omega) (by omega) (by omega) | exact bst_l hz9 hbk hbF hbm (by omega) (by show (AR k).toInt.toNat < (AR b9).toInt.toNat; omega) | exact bst_g hz9 hbk hbF hbm (by show (AR b9).toInt.toNat ≤ (AR k).toInt.toNat; omega)) hP hD hS (lv_sub hl [0, 1, 2, 3, 4] rfl)
              · have c_5 : (AR k).toInt < (AR b9).toInt := zc_nle rfl rfl c_5
                refine lv_iload hx hb dX4_leastArea_53 (lv_at hl 0 rfl) ?_
                refine lv_istore_n (lv' := [(3, .int (nI k)), (4, .int (nI k)), (0, .ref lw), (1, .int (nI n)), (2, .int lim)]) hx hb dX4_leastArea_55 rfl hl (by decide) rfl (fun ls hl => ?_)
                refine lv_iinc (v := nI (k + 1)) (lv' := [(4, .int (nI (k + 1))), (3, .int (nI k)), (0, .ref lw), (1, .int (nI n)), (2, .int lim)]) hx hb dX4_leastArea_56 hl (k := 1) rfl (nI_add k 1) (by decide) rfl (fun ls hl => ?_)
                refine lv_goto (tgt := 5) hx hb dX4_leastArea_59 (by decide) ?_
                exact ih_5 (k + 1) (nI k) H locs ls (by omega) (by omega) (by first | exact bst_f hat (by omega) | exact bst_n hat (by omega) (by omega) (by omega) | exact bst_l hz9 hbk hbF hbm (by omega) (by show (AR k).toInt.toNat < (AR b9).toInt.toNat; omega) | exact bst_g hz9 hbk hbF hbm (by show (AR b9).toInt.toNat ≤ (AR k).toInt.toNat; omega)) hP hD hS (lv_sub hl [0, 1, 2, 3, 4] rfl)
  exact hl_5 _ 0 (-1) s.heap [] ls (Nat.lt_succ_self _) (by omega) (bst_0 _ _) hP hD hS (lv_sub hl [0, 1, 2, 3, 4] rfl)
set_option maxHeartbeats 4000000 in
set_option maxRecDepth 100000 in
theorem k_Law_isIn (l : Launch) (dC : Nat → ClassId) (dI : Nat → Nat → Nat) (cI cZ cF : ClassId) (sz : Nat) (r : Nat) (rx : Nat) (ry : Nat) (n : Nat) (cap : Nat) (X : Nat → Int32) (Y : Nat → Int32) (rg : Int32) (u : Nat) (ux : Nat) (uy : Nat) (m2 : Nat) (cap2 : Nat) (U : Nat → Int32) (V : Nat → Int32) (rh : Int32) (hn : n ≤ cap) (hcap : cap ≤ 1000) (hp : pls n X Y) (hm : m2 ≤ cap2) (hcap2 : cap2 ≤ 1000) (hq : pls m2 U V) (h1m : 1 ≤ m2) : Met l yX4_isIn (.code yX4_isIn cX4_isIn 2 (some .boolean) :: ws0) ({ frames := 1, cells := 0, slots := 0, locals := 26 } : Room) (va_Pc [.ref r, .ref u] (zPre (dC, dI) classes (zTy cI cZ cF) [(oc6 r (.ref rx) (.ref ry) (nI n) rg), (oa rx cI cap X), (oa ry cI cap Y), (oc6 u (.ref ux) (.ref uy) (nI m2) rh), (oa ux cI cap2 U), (oa uy cI cap2 V)] sz zXN)) (zQ (some (.int (pI (inF 5 n X Y (U 0).toInt (V 0).toInt)))) (fun t => va_P (dC, dI) classes [(oc6 r (.ref rx) (.ref ry) (nI n) rg), (oa rx cI cap X), (oa ry cI cap Y), (oc6 u (.ref ux) (.ref uy) (nI m2) rh), (oa ux cI cap2 U), (oa uy cI cap2 V)] t.heap ∧ va_D (va_A [(oc6 r (.ref rx) (.ref ry) (nI n) rg), (oa rx cI cap X), (oa ry cI cap Y), (oc6 u (.ref ux) (.ref uy) (nI m2) rh), (oa ux cI cap2 U), (oa uy cI cap2 V)] sz) [(oc6 r (.ref rx) (.ref ry) (nI n) rg), (oa rx cI cap X), (oa ry cI cap Y), (oc6 u (.ref ux) (.ref uy) (nI m2) rh), (oa ux cI cap2 U), (oa uy cI cap2 V)]) (va_A [(oc6 r (.ref rx) (.ref ry) (nI n) rg), (oa rx cI cap X), (oa ry cI cap Y), (oc6 u (.ref ux) (.ref uy) (nI m2) rh), (oa ux cI cap2 U), (oa uy cI cap2 V)] sz)) 0 0 (va_A [(oc6 r (.ref rx) (.ref ry) (nI n) rg), (oa rx cI cap X), (oa ry cI cap Y), (oc6 u (.ref ux) (.ref uy) (nI m2) rh), (oa ux cI cap2 U), (oa uy cI cap2 V)] sz) := by
  refine Met.ofW (cc := cX4_isIn) (maxL := 2) (ret := (some .boolean)) (by decide) rfl ?_
  intro p e s m args below meth c s₁ B hml hv
  obtain ⟨rfl, hsz, hP, hK, hD0, hXN⟩ := hv
  have hx := B.exec
  have hb := B.bytes
  have hr := B.returns
  have hts0 := atoms_spec (ws := .code yX4_isIn cX4_isIn 2 (some .boolean) :: ws0) B.pre
  have hts : ∀ w9 ∈ ws0, w9.before ([.ref r, .ref u] : List Value).toArray s = true := fun w9 h => hts0 w9 (List.mem_cons_of_mem _ h)
  have hown : s.vm.findClass "ScaleShop$Law" = some m.cls := findClass_of_methodNamed B.named
  have hlocks := B.notSynchronized
  subst hsz
  have hD := hD0.self (sz := s.heap.size)
  clear hD0
  generalize hAe : va_A [(oc6 r (.ref rx) (.ref ry) (nI n) rg), (oa rx cI cap X), (oa ry cI cap Y), (oc6 u (.ref ux) (.ref uy) (nI m2) rh), (oa ux cI cap2 U), (oa uy cI cap2 V)] s.heap.size = A at hD ⊢
  have hA : ∀ q : Nat, s.heap.size ≤ q → A q := fun q h => by rw [← hAe]; exact Or.inr h
  clear hAe
  have hS : va_S A s.heap s.heap [] := va_S.rf
  have hP : va_P (dC, dI) classes [(oc6 r (.ref rx) (.ref ry) (nI n) rg), (oa rx cI cap X), (oa ry cI cap Y), (oc6 u (.ref ux) (.ref uy) (nI m2) rh), (oa ux cI cap2 U), (oa uy cI cap2 V)] s.heap := hP
  obtain ⟨Q9, hQ9⟩ : ∃ Q9 : State → Prop, Q9 = MQ below (zQ (some (.int (pI (inF 5 n X Y (U 0).toInt (V 0).toInt)))) (fun t => va_P (dC, dI) classes [(oc6 r (.ref rx) (.ref ry) (nI n) rg), (oa rx cI cap X), (oa ry cI cap Y), (oc6 u (.ref ux) (.ref uy) (nI m2) rh), (oa ux cI cap2 U), (oa uy cI cap2 V)] t.heap ∧ va_D A [(oc6 r (.ref rx) (.ref ry) (nI n) rg), (oa rx cI cap X), (oa ry cI cap Y), (oc6 u (.ref ux) (.ref uy) (nI m2) rh), (oa ux cI cap2 U), (oa uy cI cap2 V)]) A) ([.ref r, .ref u] : List Value).toArray s 0 0 A := ⟨_, rfl⟩
  rw [← hQ9]
  have hl := lv_entry ([.ref r, .ref u]) (n := 2) (Nat.le_of_ble_eq_true rfl)
  rw [lg_entry_eq]
  generalize (lg_sl ([.ref r, .ref u]) ++ List.replicate (2 - (lg_sl ([.ref r, .ref u])).length) Slot.unset).toArray = ls at hl ⊢
  have hl : lv_has ls 2 [(0, .ref r), (1, .ref u)] := hl
  refine lv_aload_n hx hb dX4_isIn_0 rfl (lv_at hl 0 rfl) ?_
  refine lv_aload_n hx hb dX4_isIn_1 rfl (lv_at hl 1 rfl) ?_
  refine va_get (D := (dC, dI)) (ci := 6) (v := .ref ux) (C := RX7) (T := TX7) (N := 4) hx hb hts inX7 hown hK hP 3 rfl rfl 0 (by decide) (hts _ mw_163) (fun _ h9 => h9) rfl dX4_isIn_2 ?_
  refine lv_iconst (v := 0) hx hb dX4_isIn_5 (by decide) ?_
  refine z_iald hx hb hK hP 4 0 rfl rfl (e := 0) rfl (by omega) (by omega) dX4_isIn_6 ?_
  refine lv_aload_n hx hb dX4_isIn_7 rfl (lv_at hl 1 rfl) ?_
  refine va_get (D := (dC, dI)) (ci := 6) (v := .ref uy) (C := RX7) (T := TX7) (N := 4) hx hb hts inX7 hown hK hP 3 rfl rfl 1 (by decide) (hts _ mw_170) (fun _ h9 => h9) rfl dX4_isIn_8 ?_
  refine lv_iconst (v := 0) hx hb dX4_isIn_11 (by decide) ?_
  refine z_iald hx hb hK hP 5 0 rfl rfl (e := 0) rfl (by omega) (by omega) dX4_isIn_12 ?_
  have hPc := hP.sub (ws' := [(oc6 r (.ref rx) (.ref ry) (nI n) rg), (oa rx cI cap X), (oa ry cI cap Y)]) [0, 1, 2] rfl
  have hDc := hD.sub (ws' := [(oc6 r (.ref rx) (.ref ry) (nI n) rg), (oa rx cI cap X), (oa ry cI cap Y)]) [0, 1, 2] (by decide) rfl
  have hFc := va_free (wc := [(oc6 r (.ref rx) (.ref ry) (nI n) rg), (oa rx cI cap X), (oa ry cI cap Y)]) hD hS hA [0, 1, 2] rfl
  refine zcall (st1 := [.int (whr n X Y (U 0).toInt (V 0).toInt)]) (va_runV (As := [.int (U 0), .int (V 0)]) (rest := []) ⟨hx, hb, hml, hown, hts⟩ (k_Row_where l dC dI cI cZ cF s.heap.size r rx ry n cap X Y rg (U 0) (V 0) (by omega) (by omega) (by assumption) ((hq 0 (by omega)).1) ((hq 0 (by omega)).2)) (cwV 2 hts (zz_gV mw_687 mw_688 mw_689 mw_102 mc_yX7_where) rfl rfl rfl (by decide +kernel) ⟨Nat.le_of_ble_eq_true rfl, Nat.le_of_ble_eq_true rfl⟩) (zPV2 (q0 := 0) (ci := 6) hPc hDc hK hXN rfl rfl) rfl rfl hl.1 rfl (lv_room (Nat.le_of_ble_eq_true rfl)) dX4_isIn_13 ⟨Nat.le_of_ble_eq_true rfl, Nat.le_of_ble_eq_true rfl⟩) hS hFc hFc rfl (fun t H1 locs ht hB hk1 hS => ?_)
  obtain ⟨hP1, hD1⟩ := hB
  rw [ht] at hP1
  obtain ⟨hP, hD⟩ := va_join (wr := [(oc6 u (.ref ux) (.ref uy) (nI m2) rh), (oa ux cI cap2 U), (oa uy cI cap2 V)]) (w1 := [(oc6 r (.ref rx) (.ref ry) (nI n) rg), (oa rx cI cap X), (oa ry cI cap Y)]) hP hD [0, 1, 2] [3, 4, 5] rfl rfl (by decide) (by decide) hk1 hFc hP1 hD1
  clear hk1 hPc hDc hFc hP1 hD1 ht
  generalize H1 = H at hP hS ⊢
  have hP := hP.sub (ws' := [(oc6 r (.ref rx) (.ref ry) (nI n) rg), (oa rx cI cap X), (oa ry cI cap Y), (oc6 u (.ref ux) (.ref uy) (nI m2) rh), (oa ux cI cap2 U), (oa uy cI cap2 V)]) [3, 4, 5, 0, 1, 2] rfl
  have hD := hD.sub (ws' := [(oc6 r (.ref rx) (.ref ry) (nI n) rg), (oa rx cI cap X), (oa ry cI cap Y), (oc6 u (.ref ux) (.ref uy) (nI m2) rh), (oa ux cI cap2 U), (oa uy cI cap2 V)]) [3, 4, 5, 0, 1, 2] (by decide) rfl
  have hP : va_P (dC, dI) classes [(oc6 r (.ref rx) (.ref ry) (nI n) rg), (oa rx cI cap X), (oa ry cI cap Y), (oc6 u (.ref ux) (.ref uy) (nI m2) rh), (oa ux cI cap2 U), (oa uy cI cap2 V)] H := hP
  have hD : va_D A [(oc6 r (.ref rx) (.ref ry) (nI n) rg), (oa rx cI cap X), (oa ry cI cap Y), (oc6 u (.ref ux) (.ref uy) (nI m2) rh), (oa ux cI cap2 U), (oa uy cI cap2 V)] := hD
  refine lv_iconst (v := 1) hx hb dX4_isIn_16 (by decide) ?_
  refine lv_icmp_ne (tgt := 24) hx hb dX4_isIn_17 (by decide) (fun c_1 => ?_) (fun c_1 => ?_)
  · have c_1 : ¬ (whr n X Y (U 0).toInt (V 0).toInt).toInt = 1 := zc_ne rfl (by decide) c_1
    refine lv_iconst (v := 0) hx hb dX4_isIn_24 (by decide) ?_
    have hP9 := hP.sub (ws' := [(oc6 r (.ref rx) (.ref ry) (nI n) rg), (oa rx cI cap X), (oa ry cI cap Y), (oc6 u (.ref ux) (.ref uy) (nI m2) rh), (oa ux cI cap2 U), (oa uy cI cap2 V)]) [0, 1, 2, 3, 4, 5] rfl
    have hD9 := hD.sub (ws' := [(oc6 r (.ref rx) (.ref ry) (nI n) rg), (oa rx cI cap X), (oa ry cI cap Y), (oc6 u (.ref ux) (.ref uy) (nI m2) rh), (oa ux cI cap2 U), (oa uy cI cap2 V)]) [0, 1, 2, 3, 4, 5] (by decide) rfl
    rw [hQ9]
    exact W.zret (ty := .boolean) (v := 0) hx hb hr (rfl) (fun t ht hW => ⟨⟨congrArg (fun z => Outcome.returned (some (Value.int z))) (show (0 : Int32) = pI (inF 5 n X Y (U 0).toInt (V 0).toInt) from (zp_f (by rw [← whr_in]; omega)).symm), by rw [ht]; exact hP9, hD9⟩, hS.F ht⟩) hS.2.2 dX4_isIn_25
  · have c_1 : (whr n X Y (U 0).toInt (V 0).toInt).toInt = 1 := zc_eq rfl (by decide) c_1
    refine lv_iconst (v := 1) hx hb dX4_isIn_20 (by decide) ?_
    refine lv_goto (tgt := 25) hx hb dX4_isIn_21 (by decide) ?_
    have hP9 := hP.sub (ws' := [(oc6 r (.ref rx) (.ref ry) (nI n) rg), (oa rx cI cap X), (oa ry cI cap Y), (oc6 u (.ref ux) (.ref uy) (nI m2) rh), (oa ux cI cap2 U), (oa uy cI cap2 V)]) [0, 1, 2, 3, 4, 5] rfl
    have hD9 := hD.sub (ws' := [(oc6 r (.ref rx) (.ref ry) (nI n) rg), (oa rx cI cap X), (oa ry cI cap Y), (oc6 u (.ref ux) (.ref uy) (nI m2) rh), (oa ux cI cap2 U), (oa uy cI cap2 V)]) [0, 1, 2, 3, 4, 5] (by decide) rfl
    rw [hQ9]
    exact W.zret (ty := .boolean) (v := 1) hx hb hr (rfl) (fun t ht hW => ⟨⟨congrArg (fun z => Outcome.returned (some (Value.int z))) (show (1 : Int32) = pI (inF 5 n X Y (U 0).toInt (V 0).toInt) from (zp_t (by rw [← whr_in]; omega)).symm), by rw [ht]; exact hP9, hD9⟩, hS.F ht⟩) hS.2.2 dX4_isIn_25
set_option maxHeartbeats 4000000 in
set_option maxRecDepth 100000 in
theorem k_Law_holdsAsBefore (l : Launch) (dC : Nat → ClassId) (dI : Nat → Nat → Nat) (cI cZ cF : ClassId) (sz : Nat) (lw : Nat) (dr : Nat) (tg : Nat) (wy : Nat) (br : Nat) (bo : Nat) (aa : Nat) (dx : Nat) (dy : Nat) (nd : Nat) (cd : Nat) (P : Nat → Int32) (Q : Nat → Int32) (rd : Int32) (r : Nat) (rx : Nat) (ry : Nat) (n : Nat) (cap : Nat) (X : Nat → Int32) (Y : Nat → Int32) (rg : Int32) (u : Nat) (ux : Nat) (uy : Nat) (m2 : Nat) (cap2 : Nat) (U : Nat → Int32) (V : Nat → Int32) (rh : Int32) (hnd : nd ≤ cd) (hcd : cd ≤ 1000) (hpd : pls nd P Q) (hn : n ≤ cap) (hcap : cap ≤ 1000) (hp : pls n X Y) (hm : m2 ≤ cap2) (hcap2 : cap2 ≤ 1000) (hq : pls m2 U V) : Met l yX4_holdsAsBefore (.code yX4_holdsAsBefore cX4_holdsAsBefore 5 (some .boolean) :: ws0) ({ frames := 1, cells := 0, slots := 0, locals := 26 } : Room) (va_Pc [.ref lw, .ref r, .ref u] (zPre (dC, dI) classes (zTy cI cZ cF) [(oc3 lw (.ref dr) (.ref tg) (.ref wy) (.ref br) (.ref bo) (.ref aa)), (oc6 dr (.ref dx) (.ref dy) (nI nd) rd), (oa dx cI cd P), (oa dy cI cd Q), (oc6 r (.ref rx) (.ref ry) (nI n) rg), (oa rx cI cap X), (oa ry cI cap Y), (oc6 u (.ref ux) (.ref uy) (nI m2) rh), (oa ux cI cap2 U), (oa uy cI cap2 V)] sz zXN)) (zQ (some (.int (pI (∀ k, k < m2 → (inF 5 n X Y (U k).toInt (V k).toInt ↔ inF 5 nd P Q (U k).toInt (V k).toInt))))) (fun t => va_P (dC, dI) classes [(oc3 lw (.ref dr) (.ref tg) (.ref wy) (.ref br) (.ref bo) (.ref aa)), (oc6 dr (.ref dx) (.ref dy) (nI nd) rd), (oa dx cI cd P), (oa dy cI cd Q), (oc6 r (.ref rx) (.ref ry) (nI n) rg), (oa rx cI cap X), (oa ry cI cap Y), (oc6 u (.ref ux) (.ref uy) (nI m2) rh), (oa ux cI cap2 U), (oa uy cI cap2 V)] t.heap ∧ va_D (va_A [(oc3 lw (.ref dr) (.ref tg) (.ref wy) (.ref br) (.ref bo) (.ref aa)), (oc6 dr (.ref dx) (.ref dy) (nI nd) rd), (oa dx cI cd P), (oa dy cI cd Q), (oc6 r (.ref rx) (.ref ry) (nI n) rg), (oa rx cI cap X), (oa ry cI cap Y), (oc6 u (.ref ux) (.ref uy) (nI m2) rh), (oa ux cI cap2 U), (oa uy cI cap2 V)] sz) [(oc3 lw (.ref dr) (.ref tg) (.ref wy) (.ref br) (.ref bo) (.ref aa)), (oc6 dr (.ref dx) (.ref dy) (nI nd) rd), (oa dx cI cd P), (oa dy cI cd Q), (oc6 r (.ref rx) (.ref ry) (nI n) rg), (oa rx cI cap X), (oa ry cI cap Y), (oc6 u (.ref ux) (.ref uy) (nI m2) rh), (oa ux cI cap2 U), (oa uy cI cap2 V)]) (va_A [(oc3 lw (.ref dr) (.ref tg) (.ref wy) (.ref br) (.ref bo) (.ref aa)), (oc6 dr (.ref dx) (.ref dy) (nI nd) rd), (oa dx cI cd P), (oa dy cI cd Q), (oc6 r (.ref rx) (.ref ry) (nI n) rg), (oa rx cI cap X), (oa ry cI cap Y), (oc6 u (.ref ux) (.ref uy) (nI m2) rh), (oa ux cI cap2 U), (oa uy cI cap2 V)] sz)) 0 0 (va_A [(oc3 lw (.ref dr) (.ref tg) (.ref wy) (.ref br) (.ref bo) (.ref aa)), (oc6 dr (.ref dx) (.ref dy) (nI nd) rd), (oa dx cI cd P), (oa dy cI cd Q), (oc6 r (.ref rx) (.ref ry) (nI n) rg), (oa rx cI cap X), (oa ry cI cap Y), (oc6 u (.ref ux) (.ref uy) (nI m2) rh), (oa ux cI cap2 U), (oa uy cI cap2 V)] sz) := by
  refine Met.ofW (cc := cX4_holdsAsBefore) (maxL := 5) (ret := (some .boolean)) (by decide) rfl ?_
  intro p e s m args below meth c s₁ B hml hv
  obtain ⟨rfl, hsz, hP, hK, hD0, hXN⟩ := hv
  have hx := B.exec
  have hb := B.bytes
  have hr := B.returns
  have hts0 := atoms_spec (ws := .code yX4_holdsAsBefore cX4_holdsAsBefore 5 (some .boolean) :: ws0) B.pre
  have hts : ∀ w9 ∈ ws0, w9.before ([.ref lw, .ref r, .ref u] : List Value).toArray s = true := fun w9 h => hts0 w9 (List.mem_cons_of_mem _ h)
  have hown : s.vm.findClass "ScaleShop$Law" = some m.cls := findClass_of_methodNamed B.named
  have hlocks := B.notSynchronized
  subst hsz
  have hD := hD0.self (sz := s.heap.size)
  clear hD0
  generalize hAe : va_A [(oc3 lw (.ref dr) (.ref tg) (.ref wy) (.ref br) (.ref bo) (.ref aa)), (oc6 dr (.ref dx) (.ref dy) (nI nd) rd), (oa dx cI cd P), (oa dy cI cd Q), (oc6 r (.ref rx) (.ref ry) (nI n) rg), (oa rx cI cap X), (oa ry cI cap Y), (oc6 u (.ref ux) (.ref uy) (nI m2) rh), (oa ux cI cap2 U), (oa uy cI cap2 V)] s.heap.size = A at hD ⊢
  have hA : ∀ q : Nat, s.heap.size ≤ q → A q := fun q h => by rw [← hAe]; exact Or.inr h
  clear hAe
  have hS : va_S A s.heap s.heap [] := va_S.rf
  have hP : va_P (dC, dI) classes [(oc3 lw (.ref dr) (.ref tg) (.ref wy) (.ref br) (.ref bo) (.ref aa)), (oc6 dr (.ref dx) (.ref dy) (nI nd) rd), (oa dx cI cd P), (oa dy cI cd Q), (oc6 r (.ref rx) (.ref ry) (nI n) rg), (oa rx cI cap X), (oa ry cI cap Y), (oc6 u (.ref ux) (.ref uy) (nI m2) rh), (oa ux cI cap2 U), (oa uy cI cap2 V)] s.heap := hP
  obtain ⟨Q9, hQ9⟩ : ∃ Q9 : State → Prop, Q9 = MQ below (zQ (some (.int (pI (∀ k, k < m2 → (inF 5 n X Y (U k).toInt (V k).toInt ↔ inF 5 nd P Q (U k).toInt (V k).toInt))))) (fun t => va_P (dC, dI) classes [(oc3 lw (.ref dr) (.ref tg) (.ref wy) (.ref br) (.ref bo) (.ref aa)), (oc6 dr (.ref dx) (.ref dy) (nI nd) rd), (oa dx cI cd P), (oa dy cI cd Q), (oc6 r (.ref rx) (.ref ry) (nI n) rg), (oa rx cI cap X), (oa ry cI cap Y), (oc6 u (.ref ux) (.ref uy) (nI m2) rh), (oa ux cI cap2 U), (oa uy cI cap2 V)] t.heap ∧ va_D A [(oc3 lw (.ref dr) (.ref tg) (.ref wy) (.ref br) (.ref bo) (.ref aa)), (oc6 dr (.ref dx) (.ref dy) (nI nd) rd), (oa dx cI cd P), (oa dy cI cd Q), (oc6 r (.ref rx) (.ref ry) (nI n) rg), (oa rx cI cap X), (oa ry cI cap Y), (oc6 u (.ref ux) (.ref uy) (nI m2) rh), (oa ux cI cap2 U), (oa uy cI cap2 V)]) A) ([.ref lw, .ref r, .ref u] : List Value).toArray s 0 0 A := ⟨_, rfl⟩
  rw [← hQ9]
  have hl := lv_entry ([.ref lw, .ref r, .ref u]) (n := 5) (Nat.le_of_ble_eq_true rfl)
  rw [lg_entry_eq]
  generalize (lg_sl ([.ref lw, .ref r, .ref u]) ++ List.replicate (5 - (lg_sl ([.ref lw, .ref r, .ref u])).length) Slot.unset).toArray = ls at hl ⊢
  have hl : lv_has ls 5 [(0, .ref lw), (1, .ref r), (2, .ref u)] := hl
  refine lv_iconst (v := 0) hx hb dX4_holdsAsBefore_0 (by decide) ?_
  refine lv_istore_n (lv' := [(3, .int 0), (0, .ref lw), (1, .ref r), (2, .ref u)]) hx hb dX4_holdsAsBefore_1 rfl hl (by decide) rfl (fun ls hl => ?_)
  have hl_2 : ∀ (n9 : Nat) (k : Nat) (H : Heap) (locs : List Loc) (ls : Array Slot), m2 - k < n9 → (k ≤ m2) → (∀ j, j < k → (inF 5 n X Y (U j).toInt (V j).toInt ↔ inF 5 nd P Q (U j).toInt (V j).toInt)) → va_P (dC, dI) classes [(oc3 lw (.ref dr) (.ref tg) (.ref wy) (.ref br) (.ref bo) (.ref aa)), (oc6 dr (.ref dx) (.ref dy) (nI nd) rd), (oa dx cI cd P), (oa dy cI cd Q), (oc6 r (.ref rx) (.ref ry) (nI n) rg), (oa rx cI cap X), (oa ry cI cap Y), (oc6 u (.ref ux) (.ref uy) (nI m2) rh), (oa ux cI cap2 U), (oa uy cI cap2 V)] H → va_D A [(oc3 lw (.ref dr) (.ref tg) (.ref wy) (.ref br) (.ref bo) (.ref aa)), (oc6 dr (.ref dx) (.ref dy) (nI nd) rd), (oa dx cI cd P), (oa dy cI cd Q), (oc6 r (.ref rx) (.ref ry) (nI n) rg), (oa rx cI cap X), (oa ry cI cap Y), (oc6 u (.ref ux) (.ref uy) (nI m2) rh), (oa ux cI cap2 U), (oa uy cI cap2 V)] → va_S A s.heap H locs → lv_has ls 5 [(3, .int (nI k)), (0, .ref lw), (1, .ref r), (2, .ref u)] → W p l e ((headSpec (.code yX4_holdsAsBefore cX4_holdsAsBefore 5 (some .boolean) :: ws0) ({ frames := 1, cells := 0, slots := 0, locals := 26 } : Room)).room) s m ([.ref lw, .ref r, .ref u] : List Value).toArray below meth c H locs 0 0 Q9 (F0 m 2 ls []) := by
    intro n9
    induction n9 with
    | zero => intro k H locs ls hm; exact absurd hm (Nat.not_lt_zero _)
    | succ n9 ih_2 =>
      intro k H locs ls hm hk hall hP hD hS hl
      refine lv_iload_n hx hb dX4_holdsAsBefore_2 rfl (lv_at hl 0 rfl) ?_
      refine lv_aload_n hx hb dX4_holdsAsBefore_3 rfl (lv_at hl 3 rfl) ?_
      refine va_get (D := (dC, dI)) (ci := 6) (v := .int (nI m2)) (C := RX7) (T := TX7) (N := 4) hx hb hts inX7 hown hK hP 7 rfl rfl 2 (by decide) (hts _ mw_176) (fun _ h9 => h9) rfl dX4_holdsAsBefore_4 ?_
      refine lv_icmp_ge (tgt := 78) hx hb dX4_holdsAsBefore_7 (by decide) (fun c_1 => ?_) (fun c_1 => ?_)
      · have c_1 : ((m2 : Nat) : Int) ≤ ((k : Nat) : Int) := zc_le (nI_toInt (by omega)) (nI_toInt (by omega)) c_1
        refine lv_iconst (v := 1) hx hb dX4_holdsAsBefore_78 (by decide) ?_
        have hP9 := hP.sub (ws' := [(oc3 lw (.ref dr) (.ref tg) (.ref wy) (.ref br) (.ref bo) (.ref aa)), (oc6 dr (.ref dx) (.ref dy) (nI nd) rd), (oa dx cI cd P), (oa dy cI cd Q), (oc6 r (.ref rx) (.ref ry) (nI n) rg), (oa rx cI cap X), (oa ry cI cap Y), (oc6 u (.ref ux) (.ref uy) (nI m2) rh), (oa ux cI cap2 U), (oa uy cI cap2 V)]) [0, 1, 2, 3, 4, 5, 6, 7, 8, 9] rfl
        have hD9 := hD.sub (ws' := [(oc3 lw (.ref dr) (.ref tg) (.ref wy) (.ref br) (.ref bo) (.ref aa)), (oc6 dr (.ref dx) (.ref dy) (nI nd) rd), (oa dx cI cd P), (oa dy cI cd Q), (oc6 r (.ref rx) (.ref ry) (nI n) rg), (oa rx cI cap X), (oa ry cI cap Y), (oc6 u (.ref ux) (.ref uy) (nI m2) rh), (oa ux cI cap2 U), (oa uy cI cap2 V)]) [0, 1, 2, 3, 4, 5, 6, 7, 8, 9] (by decide) rfl
        rw [hQ9]
        exact W.zret (ty := .boolean) (v := 1) hx hb hr (rfl) (fun t ht hW => ⟨⟨congrArg (fun z => Outcome.returned (some (Value.int z))) (show (1 : Int32) = pI (∀ k, k < m2 → (inF 5 n X Y (U k).toInt (V k).toInt ↔ inF 5 nd P Q (U k).toInt (V k).toInt)) from (zp_t (fun j hj => hall j (by omega))).symm), by rw [ht]; exact hP9, hD9⟩, hS.F ht⟩) hS.2.2 dX4_holdsAsBefore_79
      · have c_1 : ((k : Nat) : Int) < ((m2 : Nat) : Int) := zc_nle (nI_toInt (by omega)) (nI_toInt (by omega)) c_1
        refine lv_aload_n hx hb dX4_holdsAsBefore_10 rfl (lv_at hl 2 rfl) ?_
        refine lv_aload_n hx hb dX4_holdsAsBefore_11 rfl (lv_at hl 3 rfl) ?_
        refine va_get (D := (dC, dI)) (ci := 6) (v := .ref ux) (C := RX7) (T := TX7) (N := 4) hx hb hts inX7 hown hK hP 7 rfl rfl 0 (by decide) (hts _ mw_163) (fun _ h9 => h9) rfl dX4_holdsAsBefore_12 ?_
        refine lv_iload_n hx hb dX4_holdsAsBefore_15 rfl (lv_at hl 0 rfl) ?_
        refine z_iald hx hb hK hP 8 0 rfl rfl (e := k) rfl (by omega) (by omega) dX4_holdsAsBefore_16 ?_
        refine lv_aload_n hx hb dX4_holdsAsBefore_17 rfl (lv_at hl 3 rfl) ?_
        refine va_get (D := (dC, dI)) (ci := 6) (v := .ref uy) (C := RX7) (T := TX7) (N := 4) hx hb hts inX7 hown hK hP 7 rfl rfl 1 (by decide) (hts _ mw_170) (fun _ h9 => h9) rfl dX4_holdsAsBefore_18 ?_
        refine lv_iload_n hx hb dX4_holdsAsBefore_21 rfl (lv_at hl 0 rfl) ?_
        refine z_iald hx hb hK hP 9 0 rfl rfl (e := k) rfl (by omega) (by omega) dX4_holdsAsBefore_22 ?_
        have hPc := hP.sub (ws' := [(oc6 r (.ref rx) (.ref ry) (nI n) rg), (oa rx cI cap X), (oa ry cI cap Y)]) [4, 5, 6] rfl
        have hDc := hD.sub (ws' := [(oc6 r (.ref rx) (.ref ry) (nI n) rg), (oa rx cI cap X), (oa ry cI cap Y)]) [4, 5, 6] (by decide) rfl
        have hFc := va_free (wc := [(oc6 r (.ref rx) (.ref ry) (nI n) rg), (oa rx cI cap X), (oa ry cI cap Y)]) hD hS hA [4, 5, 6] rfl
        refine zcall (st1 := [.int (whr n X Y (U k).toInt (V k).toInt)]) (va_runV (As := [.int (U k), .int (V k)]) (rest := []) ⟨hx, hb, hml, hown, hts⟩ (k_Row_where l dC dI cI cZ cF H.size r rx ry n cap X Y rg (U k) (V k) (by omega) (by omega) (hp) ((hq k (by omega)).1) ((hq k (by omega)).2)) (cwV 2 hts (zz_gV mw_687 mw_688 mw_689 mw_102 mc_yX7_where) rfl rfl rfl (by decide +kernel) ⟨Nat.le_of_ble_eq_true rfl, Nat.le_of_ble_eq_true rfl⟩) (zPV2 (q0 := 0) (ci := 6) hPc hDc hK hXN rfl rfl) rfl rfl hl.1 rfl (lv_room (Nat.le_of_ble_eq_true rfl)) dX4_holdsAsBefore_23 ⟨Nat.le_of_ble_eq_true rfl, Nat.le_of_ble_eq_true rfl⟩) hS hFc hFc rfl (fun t H1 locs ht hB hk1 hS => ?_)
        obtain ⟨hP1, hD1⟩ := hB
        rw [ht] at hP1
        obtain ⟨hP, hD⟩ := va_join (wr := [(oc3 lw (.ref dr) (.ref tg) (.ref wy) (.ref br) (.ref bo) (.ref aa)), (oc6 dr (.ref dx) (.ref dy) (nI nd) rd), (oa dx cI cd P), (oa dy cI cd Q), (oc6 u (.ref ux) (.ref uy) (nI m2) rh), (oa ux cI cap2 U), (oa uy cI cap2 V)]) (w1 := [(oc6 r (.ref rx) (.ref ry) (nI n) rg), (oa rx cI cap X), (oa ry cI cap Y)]) hP hD [4, 5, 6] [0, 1, 2, 3, 7, 8, 9] rfl rfl (by decide) (by decide) hk1 hFc hP1 hD1
        clear hk1 hPc hDc hFc hP1 hD1 ht
        generalize H1 = H at hP hS ⊢
        have hP := hP.sub (ws' := [(oc3 lw (.ref dr) (.ref tg) (.ref wy) (.ref br) (.ref bo) (.ref aa)), (oc6 dr (.ref dx) (.ref dy) (nI nd) rd), (oa dx cI cd P), (oa dy cI cd Q), (oc6 r (.ref rx) (.ref ry) (nI n) rg), (oa rx cI cap X), (oa ry cI cap Y), (oc6 u (.ref ux) (.ref uy) (nI m2) rh), (oa ux cI cap2 U), (oa uy cI cap2 V)]) [0, 1, 2, 3, 7, 8, 9, 4, 5, 6] rfl
        have hD := hD.sub (ws' := [(oc3 lw (.ref dr) (.ref tg) (.ref wy) (.ref br) (.ref bo) (.ref aa)), (oc6 dr (.ref dx) (.ref dy) (nI nd) rd), (oa dx cI cd P), (oa dy cI cd Q), (oc6 r (.ref rx) (.ref ry) (nI n) rg), (oa rx cI cap X), (oa ry cI cap Y), (oc6 u (.ref ux) (.ref uy) (nI m2) rh), (oa ux cI cap2 U), (oa uy cI cap2 V)]) [0, 1, 2, 3, 7, 8, 9, 4, 5, 6] (by decide) rfl
        have hP : va_P (dC, dI) classes [(oc3 lw (.ref dr) (.ref tg) (.ref wy) (.ref br) (.ref bo) (.ref aa)), (oc6 dr (.ref dx) (.ref dy) (nI nd) rd), (oa dx cI cd P), (oa dy cI cd Q), (oc6 r (.ref rx) (.ref ry) (nI n) rg), (oa rx cI cap X), (oa ry cI cap Y), (oc6 u (.ref ux) (.ref uy) (nI m2) rh), (oa ux cI cap2 U), (oa uy cI cap2 V)] H := hP
        have hD : va_D A [(oc3 lw (.ref dr) (.ref tg) (.ref wy) (.ref br) (.ref bo) (.ref aa)), (oc6 dr (.ref dx) (.ref dy) (nI nd) rd), (oa dx cI cd P), (oa dy cI cd Q), (oc6 r (.ref rx) (.ref ry) (nI n) rg), (oa rx cI cap X), (oa ry cI cap Y), (oc6 u (.ref ux) (.ref uy) (nI m2) rh), (oa ux cI cap2 U), (oa uy cI cap2 V)] := hD
        have hj_2 : W p l e ((headSpec (.code yX4_holdsAsBefore cX4_holdsAsBefore 5 (some .boolean) :: ws0) ({ frames := 1, cells := 0, slots := 0, locals := 26 } : Room)).room) s m ([.ref lw, .ref r, .ref u] : List Value).toArray below meth c H locs 0 0 Q9 (F0 m 35 ls [.int (pI (inF 5 n X Y (U k).toInt (V k).toInt))]) := by
          refine lv_istore (lv' := [(4, .int (pI (inF 5 n X Y (U k).toInt (V k).toInt))), (3, .int (nI k)), (0, .ref lw), (1, .ref r), (2, .ref u)]) hx hb dX4_holdsAsBefore_35 hl (by decide) rfl (fun ls hl => ?_)
          refine lv_iload hx hb dX4_holdsAsBefore_37 (lv_at hl 0 rfl) ?_
          refine lv_aload_n hx hb dX4_holdsAsBefore_39 rfl (lv_at hl 2 rfl) ?_
          refine va_get (D := (dC, dI)) (ci := 3) (v := .ref dr) (C := RX4) (T := TX4) (N := 6) hx hb hts inX4 hown hK hP 0 rfl rfl 0 (by decide) (hts _ mw_219) (fun _ h9 => h9) rfl dX4_holdsAsBefore_40 ?_
          refine lv_aload_n hx hb dX4_holdsAsBefore_43 rfl (lv_at hl 4 rfl) ?_
          refine va_get (D := (dC, dI)) (ci := 6) (v := .ref ux) (C := RX7) (T := TX7) (N := 4) hx hb hts inX7 hown hK hP 7 rfl rfl 0 (by decide) (hts _ mw_163) (fun _ h9 => h9) rfl dX4_holdsAsBefore_44 ?_
          refine lv_iload_n hx hb dX4_holdsAsBefore_47 rfl (lv_at hl 1 rfl) ?_
          refine z_iald hx hb hK hP 8 0 rfl rfl (e := k) rfl (by omega) (by omega) dX4_holdsAsBefore_48 ?_
          refine lv_aload_n hx hb dX4_holdsAsBefore_49 rfl (lv_at hl 4 rfl) ?_
          refine va_get (D := (dC, dI)) (ci := 6) (v := .ref uy) (C := RX7) (T := TX7) (N := 4) hx hb hts inX7 hown hK hP 7 rfl rfl 1 (by decide) (hts _ mw_170) (fun _ h9 => h9) rfl dX4_holdsAsBefore_50 ?_
          refine lv_iload_n hx hb dX4_holdsAsBefore_53 rfl (lv_at hl 1 rfl) ?_
          refine z_iald hx hb hK hP 9 0 rfl rfl (e := k) rfl (by omega) (by omega) dX4_holdsAsBefore_54 ?_
          have hPc := hP.sub (ws' := [(oc6 dr (.ref dx) (.ref dy) (nI nd) rd), (oa dx cI cd P), (oa dy cI cd Q)]) [1, 2, 3] rfl
          have hDc := hD.sub (ws' := [(oc6 dr (.ref dx) (.ref dy) (nI nd) rd), (oa dx cI cd P), (oa dy cI cd Q)]) [1, 2, 3] (by decide) rfl
          have hFc := va_free (wc := [(oc6 dr (.ref dx) (.ref dy) (nI nd) rd), (oa dx cI cd P), (oa dy cI cd Q)]) hD hS hA [1, 2, 3] rfl
          refine zcall (st1 := [.int (whr nd P Q (U k).toInt (V k).toInt), .int (pI (inF 5 n X Y (U k).toInt (V k).toInt))]) (va_runV (As := [.int (U k), .int (V k)]) (rest := [.int (pI (inF 5 n X Y (U k).toInt (V k).toInt))]) ⟨hx, hb, hml, hown, hts⟩ (k_Row_where l dC dI cI cZ cF H.size dr dx dy nd cd P Q rd (U k) (V k) (by omega) (by omega) (hpd) ((hq k (by omega)).1) ((hq k (by omega)).2)) (cwV 2 hts (zz_gV mw_687 mw_688 mw_689 mw_102 mc_yX7_where) rfl rfl rfl (by decide +kernel) ⟨Nat.le_of_ble_eq_true rfl, Nat.le_of_ble_eq_true rfl⟩) (zPV2 (q0 := 0) (ci := 6) hPc hDc hK hXN rfl rfl) rfl rfl hl.1 rfl (lv_room (Nat.le_of_ble_eq_true rfl)) dX4_holdsAsBefore_55 ⟨Nat.le_of_ble_eq_true rfl, Nat.le_of_ble_eq_true rfl⟩) hS hFc hFc rfl (fun t H1 locs ht hB hk1 hS => ?_)
          obtain ⟨hP1, hD1⟩ := hB
          rw [ht] at hP1
          obtain ⟨hP, hD⟩ := va_join (wr := [(oc3 lw (.ref dr) (.ref tg) (.ref wy) (.ref br) (.ref bo) (.ref aa)), (oc6 r (.ref rx) (.ref ry) (nI n) rg), (oa rx cI cap X), (oa ry cI cap Y), (oc6 u (.ref ux) (.ref uy) (nI m2) rh), (oa ux cI cap2 U), (oa uy cI cap2 V)]) (w1 := [(oc6 dr (.ref dx) (.ref dy) (nI nd) rd), (oa dx cI cd P), (oa dy cI cd Q)]) hP hD [1, 2, 3] [0, 4, 5, 6, 7, 8, 9] rfl rfl (by decide) (by decide) hk1 hFc hP1 hD1
          clear hk1 hPc hDc hFc hP1 hD1 ht
          generalize H1 = H at hP hS ⊢
          have hP := hP.sub (ws' := [(oc3 lw (.ref dr) (.ref tg) (.ref wy) (.ref br) (.ref bo) (.ref aa)), (oc6 dr (.ref dx) (.ref dy) (nI nd) rd), (oa dx cI cd P), (oa dy cI cd Q), (oc6 r (.ref rx) (.ref ry) (nI n) rg), (oa rx cI cap X), (oa ry cI cap Y), (oc6 u (.ref ux) (.ref uy) (nI m2) rh), (oa ux cI cap2 U), (oa uy cI cap2 V)]) [0, 7, 8, 9, 1, 2, 3, 4, 5, 6] rfl
          have hD := hD.sub (ws' := [(oc3 lw (.ref dr) (.ref tg) (.ref wy) (.ref br) (.ref bo) (.ref aa)), (oc6 dr (.ref dx) (.ref dy) (nI nd) rd), (oa dx cI cd P), (oa dy cI cd Q), (oc6 r (.ref rx) (.ref ry) (nI n) rg), (oa rx cI cap X), (oa ry cI cap Y), (oc6 u (.ref ux) (.ref uy) (nI m2) rh), (oa ux cI cap2 U), (oa uy cI cap2 V)]) [0, 7, 8, 9, 1, 2, 3, 4, 5, 6] (by decide) rfl
          have hP : va_P (dC, dI) classes [(oc3 lw (.ref dr) (.ref tg) (.ref wy) (.ref br) (.ref bo) (.ref aa)), (oc6 dr (.ref dx) (.ref dy) (nI nd) rd), (oa dx cI cd P), (oa dy cI cd Q), (oc6 r (.ref rx) (.ref ry) (nI n) rg), (oa rx cI cap X), (oa ry cI cap Y), (oc6 u (.ref ux) (.ref uy) (nI m2) rh), (oa ux cI cap2 U), (oa uy cI cap2 V)] H := hP
          have hD : va_D A [(oc3 lw (.ref dr) (.ref tg) (.ref wy) (.ref br) (.ref bo) (.ref aa)), (oc6 dr (.ref dx) (.ref dy) (nI nd) rd), (oa dx cI cd P), (oa dy cI cd Q), (oc6 r (.ref rx) (.ref ry) (nI n) rg), (oa rx cI cap X), (oa ry cI cap Y), (oc6 u (.ref ux) (.ref uy) (nI m2) rh), (oa ux cI cap2 U), (oa uy cI cap2 V)] := hD
          have hj_3 : W p l e ((headSpec (.code yX4_holdsAsBefore cX4_holdsAsBefore 5 (some .boolean) :: ws0) ({ frames := 1, cells := 0, slots := 0, locals := 26 } : Room)).room) s m ([.ref lw, .ref r, .ref u] : List Value).toArray below meth c H locs 0 0 Q9 (F0 m 67 ls [.int (pI (inF 5 nd P Q (U k).toInt (V k).toInt)), .int (pI (inF 5 n X Y (U k).toInt (V k).toInt))]) := by
            refine lv_icmp_eq (tgt := 72) hx hb dX4_holdsAsBefore_67 (by decide) (fun c_4 => ?_) (fun c_4 => ?_)
            · have c_4 : (pI (inF 5 n X Y (U k).toInt (V k).toInt)).toInt = (pI (inF 5 nd P Q (U k).toInt (V k).toInt)).toInt := zc_eq rfl rfl c_4
              refine lv_iinc (v := nI (k + 1)) (lv' := [(3, .int (nI (k + 1))), (4, .int (pI (inF 5 n X Y (U k).toInt (V k).toInt))), (0, .ref lw), (1, .ref r), (2, .ref u)]) hx hb dX4_holdsAsBefore_72 hl (k := 1) rfl (nI_add k 1) (by decide) rfl (fun ls hl => ?_)
              refine lv_goto (tgt := 2) hx hb dX4_holdsAsBefore_75 (by decide) ?_
              exact ih_2 (k + 1) H locs ls (by omega) (by omega) (by intro j hj; rcases Nat.lt_or_ge j k with h | h; exact hall j h; rw [show j = k by omega]; exact zp_ieq.mp (by assumption)) hP hD hS (lv_sub hl [0, 2, 3, 4] rfl)
            · have c_4 : ¬ (pI (inF 5 n X Y (U k).toInt (V k).toInt)).toInt = (pI (inF 5 nd P Q (U k).toInt (V k).toInt)).toInt := zc_ne rfl rfl c_4
              refine lv_iconst (v := 0) hx hb dX4_holdsAsBefore_70 (by decide) ?_
              have hP9 := hP.sub (ws' := [(oc3 lw (.ref dr) (.ref tg) (.ref wy) (.ref br) (.ref bo) (.ref aa)), (oc6 dr (.ref dx) (.ref dy) (nI nd) rd), (oa dx cI cd P), (oa dy cI cd Q), (oc6 r (.ref rx) (.ref ry) (nI n) rg), (oa rx cI cap X), (oa ry cI cap Y), (oc6 u (.ref ux) (.ref uy) (nI m2) rh), (oa ux cI cap2 U), (oa uy cI cap2 V)]) [0, 1, 2, 3, 4, 5, 6, 7, 8, 9] rfl
              have hD9 := hD.sub (ws' := [(oc3 lw (.ref dr) (.ref tg) (.ref wy) (.ref br) (.ref bo) (.ref aa)), (oc6 dr (.ref dx) (.ref dy) (nI nd) rd), (oa dx cI cd P), (oa dy cI cd Q), (oc6 r (.ref rx) (.ref ry) (nI n) rg), (oa rx cI cap X), (oa ry cI cap Y), (oc6 u (.ref ux) (.ref uy) (nI m2) rh), (oa ux cI cap2 U), (oa uy cI cap2 V)]) [0, 1, 2, 3, 4, 5, 6, 7, 8, 9] (by decide) rfl
              rw [hQ9]
              exact W.zret (ty := .boolean) (v := 0) hx hb hr (rfl) (fun t ht hW => ⟨⟨congrArg (fun z => Outcome.returned (some (Value.int z))) (show (0 : Int32) = pI (∀ k, k < m2 → (inF 5 n X Y (U k).toInt (V k).toInt ↔ inF 5 nd P Q (U k).toInt (V k).toInt)) from (zp_f (fun h => absurd (zp_ieq.mpr (h k (by omega))) (by assumption))).symm), by rw [ht]; exact hP9, hD9⟩, hS.F ht⟩) hS.2.2 dX4_holdsAsBefore_71
          refine lv_iconst (v := 1) hx hb dX4_holdsAsBefore_58 (by decide) ?_
          refine lv_icmp_ne (tgt := 66) hx hb dX4_holdsAsBefore_59 (by decide) (fun c_5 => ?_) (fun c_5 => ?_)
          · have c_5 : ¬ (whr nd P Q (U k).toInt (V k).toInt).toInt = 1 := zc_ne rfl (by decide) c_5
            refine lv_iconst (v := 0) hx hb dX4_holdsAsBefore_66 (by decide) ?_
            refine zz_i (v := pI (inF 5 nd P Q (U k).toInt (V k).toInt)) (by first | exact (zp_t (whr_in.mp (by assumption))).symm | exact (zp_f (fun h => absurd (whr_in.mpr h) (by assumption))).symm) ?_
            exact hj_3 
          · have c_5 : (whr nd P Q (U k).toInt (V k).toInt).toInt = 1 := zc_eq rfl (by decide) c_5
            refine lv_iconst (v := 1) hx hb dX4_holdsAsBefore_62 (by decide) ?_
            refine lv_goto (tgt := 67) hx hb dX4_holdsAsBefore_63 (by decide) ?_
            refine zz_i (v := pI (inF 5 nd P Q (U k).toInt (V k).toInt)) (by first | exact (zp_t (whr_in.mp (by assumption))).symm | exact (zp_f (fun h => absurd (whr_in.mpr h) (by assumption))).symm) ?_
            exact hj_3 
        refine lv_iconst (v := 1) hx hb dX4_holdsAsBefore_26 (by decide) ?_
        refine lv_icmp_ne (tgt := 34) hx hb dX4_holdsAsBefore_27 (by decide) (fun c_6 => ?_) (fun c_6 => ?_)
        · have c_6 : ¬ (whr n X Y (U k).toInt (V k).toInt).toInt = 1 := zc_ne rfl (by decide) c_6
          refine lv_iconst (v := 0) hx hb dX4_holdsAsBefore_34 (by decide) ?_
          refine zz_i (v := pI (inF 5 n X Y (U k).toInt (V k).toInt)) (by first | exact (zp_t (whr_in.mp (by assumption))).symm | exact (zp_f (fun h => absurd (whr_in.mpr h) (by assumption))).symm) ?_
          exact hj_2 
        · have c_6 : (whr n X Y (U k).toInt (V k).toInt).toInt = 1 := zc_eq rfl (by decide) c_6
          refine lv_iconst (v := 1) hx hb dX4_holdsAsBefore_30 (by decide) ?_
          refine lv_goto (tgt := 35) hx hb dX4_holdsAsBefore_31 (by decide) ?_
          refine zz_i (v := pI (inF 5 n X Y (U k).toInt (V k).toInt)) (by first | exact (zp_t (whr_in.mp (by assumption))).symm | exact (zp_f (fun h => absurd (whr_in.mpr h) (by assumption))).symm) ?_
          exact hj_2 
  exact hl_2 _ 0 s.heap [] ls (Nat.lt_succ_self _) (by omega) (by intro j hj; omega) hP hD hS (lv_sub hl [0, 1, 2, 3] rfl)
set_option maxHeartbeats 4000000 in
set_option maxRecDepth 100000 in
theorem k_Law_leadsTo (l : Launch) (dC : Nat → ClassId) (dI : Nat → Nat → Nat) (cI cZ cF : ClassId) (sz : Nat) (lw : Nat) (dr : Nat) (tg : Nat) (wy : Nat) (br : Nat) (bo : Nat) (aa : Nat) (wx : Nat) (wz : Nat) (WX : Nat → Int32) (WY : Nat → Int32) (rw : Int32) (px : Int32) (py : Int32) (hpw : pls 2 WX WY) (hpx : pl px) (hpy : pl py) : Met l yX4_leadsTo (.code yX4_leadsTo cX4_leadsTo 4 (some .boolean) :: ws0) ({ frames := 1, cells := 0, slots := 0, locals := 24 } : Room) (va_Pc [.ref lw, .int px, .int py] (zPre (dC, dI) classes (zTy cI cZ cF) [(oc3 lw (.ref dr) (.ref tg) (.ref wy) (.ref br) (.ref bo) (.ref aa)), (oc6 wy (.ref wx) (.ref wz) (nI 2) rw), (oa wx cI 2 WX), (oa wz cI 2 WY)] sz zXN)) (zQ (some (.int (pI (ldT (WX 0).toInt (WY 0).toInt (WX 1).toInt (WY 1).toInt px.toInt py.toInt)))) (fun t => va_P (dC, dI) classes [(oc3 lw (.ref dr) (.ref tg) (.ref wy) (.ref br) (.ref bo) (.ref aa)), (oc6 wy (.ref wx) (.ref wz) (nI 2) rw), (oa wx cI 2 WX), (oa wz cI 2 WY)] t.heap ∧ va_D (va_A [(oc3 lw (.ref dr) (.ref tg) (.ref wy) (.ref br) (.ref bo) (.ref aa)), (oc6 wy (.ref wx) (.ref wz) (nI 2) rw), (oa wx cI 2 WX), (oa wz cI 2 WY)] sz) [(oc3 lw (.ref dr) (.ref tg) (.ref wy) (.ref br) (.ref bo) (.ref aa)), (oc6 wy (.ref wx) (.ref wz) (nI 2) rw), (oa wx cI 2 WX), (oa wz cI 2 WY)]) (va_A [(oc3 lw (.ref dr) (.ref tg) (.ref wy) (.ref br) (.ref bo) (.ref aa)), (oc6 wy (.ref wx) (.ref wz) (nI 2) rw), (oa wx cI 2 WX), (oa wz cI 2 WY)] sz)) 0 0 (va_A [(oc3 lw (.ref dr) (.ref tg) (.ref wy) (.ref br) (.ref bo) (.ref aa)), (oc6 wy (.ref wx) (.ref wz) (nI 2) rw), (oa wx cI 2 WX), (oa wz cI 2 WY)] sz) := by
  refine Met.ofW (cc := cX4_leadsTo) (maxL := 4) (ret := (some .boolean)) (by decide) rfl ?_
  intro p e s m args below meth c s₁ B hml hv
  obtain ⟨rfl, hsz, hP, hK, hD0, hXN⟩ := hv
  have hx := B.exec
  have hb := B.bytes
  have hr := B.returns
  have hts0 := atoms_spec (ws := .code yX4_leadsTo cX4_leadsTo 4 (some .boolean) :: ws0) B.pre
  have hts : ∀ w9 ∈ ws0, w9.before ([.ref lw, .int px, .int py] : List Value).toArray s = true := fun w9 h => hts0 w9 (List.mem_cons_of_mem _ h)
  have hown : s.vm.findClass "ScaleShop$Law" = some m.cls := findClass_of_methodNamed B.named
  have hlocks := B.notSynchronized
  subst hsz
  have hD := hD0.self (sz := s.heap.size)
  clear hD0
  generalize hAe : va_A [(oc3 lw (.ref dr) (.ref tg) (.ref wy) (.ref br) (.ref bo) (.ref aa)), (oc6 wy (.ref wx) (.ref wz) (nI 2) rw), (oa wx cI 2 WX), (oa wz cI 2 WY)] s.heap.size = A at hD ⊢
  have hA : ∀ q : Nat, s.heap.size ≤ q → A q := fun q h => by rw [← hAe]; exact Or.inr h
  clear hAe
  have hS : va_S A s.heap s.heap [] := va_S.rf
  have hP : va_P (dC, dI) classes [(oc3 lw (.ref dr) (.ref tg) (.ref wy) (.ref br) (.ref bo) (.ref aa)), (oc6 wy (.ref wx) (.ref wz) (nI 2) rw), (oa wx cI 2 WX), (oa wz cI 2 WY)] s.heap := hP
  obtain ⟨Q9, hQ9⟩ : ∃ Q9 : State → Prop, Q9 = MQ below (zQ (some (.int (pI (ldT (WX 0).toInt (WY 0).toInt (WX 1).toInt (WY 1).toInt px.toInt py.toInt)))) (fun t => va_P (dC, dI) classes [(oc3 lw (.ref dr) (.ref tg) (.ref wy) (.ref br) (.ref bo) (.ref aa)), (oc6 wy (.ref wx) (.ref wz) (nI 2) rw), (oa wx cI 2 WX), (oa wz cI 2 WY)] t.heap ∧ va_D A [(oc3 lw (.ref dr) (.ref tg) (.ref wy) (.ref br) (.ref bo) (.ref aa)), (oc6 wy (.ref wx) (.ref wz) (nI 2) rw), (oa wx cI 2 WX), (oa wz cI 2 WY)]) A) ([.ref lw, .int px, .int py] : List Value).toArray s 0 0 A := ⟨_, rfl⟩
  rw [← hQ9]
  have hl := lv_entry ([.ref lw, .int px, .int py]) (n := 4) (Nat.le_of_ble_eq_true rfl)
  rw [lg_entry_eq]
  generalize (lg_sl ([.ref lw, .int px, .int py]) ++ List.replicate (4 - (lg_sl ([.ref lw, .int px, .int py])).length) Slot.unset).toArray = ls at hl ⊢
  have hl : lv_has ls 4 [(0, .ref lw), (1, .int px), (2, .int py)] := hl
  have hTb := nrT_b (hpw 0 (by omega)).1 (hpw 0 (by omega)).2 (hpw 1 (by omega)).1 (hpw 1 (by omega)).2 hpx hpy
  have hCb := crBp (hpw 0 (by omega)).1 (hpw 0 (by omega)).2 (hpw 1 (by omega)).1 (hpw 1 (by omega)).2 hpx hpy
  have e9 : eCr 2 WX WY 0 px.toInt py.toInt = cr (WX 0).toInt (WY 0).toInt (WX 1).toInt (WY 1).toInt px.toInt py.toInt := rfl
  refine lv_aload_n hx hb dX4_leadsTo_0 rfl (lv_at hl 0 rfl) ?_
  refine va_get (D := (dC, dI)) (ci := 3) (v := .ref wy) (C := RX4) (T := TX4) (N := 6) hx hb hts inX4 hown hK hP 0 rfl rfl 2 (by decide) (hts _ mw_222) (fun _ h9 => h9) rfl dX4_leadsTo_1 ?_
  refine va_get (D := (dC, dI)) (ci := 6) (v := .ref wx) (C := RX7) (T := TX7) (N := 4) hx hb hts inX7 hown hK hP 1 rfl rfl 0 (by decide) (hts _ mw_163) (fun _ h9 => h9) rfl dX4_leadsTo_4 ?_
  refine lv_iconst (v := 1) hx hb dX4_leadsTo_7 (by decide) ?_
  refine z_iald hx hb hK hP 2 0 rfl rfl (e := 1) rfl (by omega) (by omega) dX4_leadsTo_8 ?_
  refine lv_aload_n hx hb dX4_leadsTo_9 rfl (lv_at hl 0 rfl) ?_
  refine va_get (D := (dC, dI)) (ci := 3) (v := .ref wy) (C := RX4) (T := TX4) (N := 6) hx hb hts inX4 hown hK hP 0 rfl rfl 2 (by decide) (hts _ mw_222) (fun _ h9 => h9) rfl dX4_leadsTo_10 ?_
  refine va_get (D := (dC, dI)) (ci := 6) (v := .ref wx) (C := RX7) (T := TX7) (N := 4) hx hb hts inX7 hown hK hP 1 rfl rfl 0 (by decide) (hts _ mw_163) (fun _ h9 => h9) rfl dX4_leadsTo_13 ?_
  refine lv_iconst (v := 0) hx hb dX4_leadsTo_16 (by decide) ?_
  refine z_iald hx hb hK hP 2 0 rfl rfl (e := 0) rfl (by omega) (by omega) dX4_leadsTo_17 ?_
  refine lv_isub hx hb dX4_leadsTo_18 ?_
  refine lv_iload_n hx hb dX4_leadsTo_19 rfl (lv_at hl 1 rfl) ?_
  refine lv_aload_n hx hb dX4_leadsTo_20 rfl (lv_at hl 0 rfl) ?_
  refine va_get (D := (dC, dI)) (ci := 3) (v := .ref wy) (C := RX4) (T := TX4) (N := 6) hx hb hts inX4 hown hK hP 0 rfl rfl 2 (by decide) (hts _ mw_222) (fun _ h9 => h9) rfl dX4_leadsTo_21 ?_
  refine va_get (D := (dC, dI)) (ci := 6) (v := .ref wx) (C := RX7) (T := TX7) (N := 4) hx hb hts inX7 hown hK hP 1 rfl rfl 0 (by decide) (hts _ mw_163) (fun _ h9 => h9) rfl dX4_leadsTo_24 ?_
  refine lv_iconst (v := 0) hx hb dX4_leadsTo_27 (by decide) ?_
  refine z_iald hx hb hK hP 2 0 rfl rfl (e := 0) rfl (by omega) (by omega) dX4_leadsTo_28 ?_
  refine lv_isub hx hb dX4_leadsTo_29 ?_
  refine lv_imul hx hb dX4_leadsTo_30 ?_
  refine lv_aload_n hx hb dX4_leadsTo_31 rfl (lv_at hl 0 rfl) ?_
  refine va_get (D := (dC, dI)) (ci := 3) (v := .ref wy) (C := RX4) (T := TX4) (N := 6) hx hb hts inX4 hown hK hP 0 rfl rfl 2 (by decide) (hts _ mw_222) (fun _ h9 => h9) rfl dX4_leadsTo_32 ?_
  refine va_get (D := (dC, dI)) (ci := 6) (v := .ref wz) (C := RX7) (T := TX7) (N := 4) hx hb hts inX7 hown hK hP 1 rfl rfl 1 (by decide) (hts _ mw_170) (fun _ h9 => h9) rfl dX4_leadsTo_35 ?_
  refine lv_iconst (v := 1) hx hb dX4_leadsTo_38 (by decide) ?_
  refine z_iald hx hb hK hP 3 0 rfl rfl (e := 1) rfl (by omega) (by omega) dX4_leadsTo_39 ?_
  refine lv_aload_n hx hb dX4_leadsTo_40 rfl (lv_at hl 0 rfl) ?_
  refine va_get (D := (dC, dI)) (ci := 3) (v := .ref wy) (C := RX4) (T := TX4) (N := 6) hx hb hts inX4 hown hK hP 0 rfl rfl 2 (by decide) (hts _ mw_222) (fun _ h9 => h9) rfl dX4_leadsTo_41 ?_
  refine va_get (D := (dC, dI)) (ci := 6) (v := .ref wz) (C := RX7) (T := TX7) (N := 4) hx hb hts inX7 hown hK hP 1 rfl rfl 1 (by decide) (hts _ mw_170) (fun _ h9 => h9) rfl dX4_leadsTo_44 ?_
  refine lv_iconst (v := 0) hx hb dX4_leadsTo_47 (by decide) ?_
  refine z_iald hx hb hK hP 3 0 rfl rfl (e := 0) rfl (by omega) (by omega) dX4_leadsTo_48 ?_
  refine lv_isub hx hb dX4_leadsTo_49 ?_
  refine lv_iload_n hx hb dX4_leadsTo_50 rfl (lv_at hl 2 rfl) ?_
  refine lv_aload_n hx hb dX4_leadsTo_51 rfl (lv_at hl 0 rfl) ?_
  refine va_get (D := (dC, dI)) (ci := 3) (v := .ref wy) (C := RX4) (T := TX4) (N := 6) hx hb hts inX4 hown hK hP 0 rfl rfl 2 (by decide) (hts _ mw_222) (fun _ h9 => h9) rfl dX4_leadsTo_52 ?_
  refine va_get (D := (dC, dI)) (ci := 6) (v := .ref wz) (C := RX7) (T := TX7) (N := 4) hx hb hts inX7 hown hK hP 1 rfl rfl 1 (by decide) (hts _ mw_170) (fun _ h9 => h9) rfl dX4_leadsTo_55 ?_
  refine lv_iconst (v := 0) hx hb dX4_leadsTo_58 (by decide) ?_
  refine z_iald hx hb hK hP 3 0 rfl rfl (e := 0) rfl (by omega) (by omega) dX4_leadsTo_59 ?_
  refine lv_isub hx hb dX4_leadsTo_60 ?_
  refine lv_imul hx hb dX4_leadsTo_61 ?_
  refine lv_iadd hx hb dX4_leadsTo_62 ?_
  refine zz_i (v := iI (nrT (WX 0).toInt (WY 0).toInt (WX 1).toInt (WY 1).toInt px.toInt py.toInt)) (in_dot (hpw 0 (by omega)).1 (hpw 0 (by omega)).2 (hpw 1 (by omega)).1 (hpw 1 (by omega)).2 hpx hpy) ?_
  refine lv_istore_n (lv' := [(3, .int (iI (nrT (WX 0).toInt (WY 0).toInt (WX 1).toInt (WY 1).toInt px.toInt py.toInt))), (0, .ref lw), (1, .int px), (2, .int py)]) hx hb dX4_leadsTo_63 rfl hl (by decide) rfl (fun ls hl => ?_)
  refine lv_aload_n hx hb dX4_leadsTo_64 rfl (lv_at hl 1 rfl) ?_
  refine va_get (D := (dC, dI)) (ci := 3) (v := .ref wy) (C := RX4) (T := TX4) (N := 6) hx hb hts inX4 hown hK hP 0 rfl rfl 2 (by decide) (hts _ mw_222) (fun _ h9 => h9) rfl dX4_leadsTo_65 ?_
  refine lv_iconst (v := 0) hx hb dX4_leadsTo_68 (by decide) ?_
  refine lv_iload_n hx hb dX4_leadsTo_69 rfl (lv_at hl 2 rfl) ?_
  refine lv_iload_n hx hb dX4_leadsTo_70 rfl (lv_at hl 3 rfl) ?_
  have hPc := hP.sub (ws' := [(oc6 wy (.ref wx) (.ref wz) (nI 2) rw), (oa wx cI 2 WX), (oa wz cI 2 WY)]) [1, 2, 3] rfl
  have hDc := hD.sub (ws' := [(oc6 wy (.ref wx) (.ref wz) (nI 2) rw), (oa wx cI 2 WX), (oa wz cI 2 WY)]) [1, 2, 3] (by decide) rfl
  have hFc := va_free (wc := [(oc6 wy (.ref wx) (.ref wz) (nI 2) rw), (oa wx cI 2 WX), (oa wz cI 2 WY)]) hD hS hA [1, 2, 3] rfl
  refine zcall (st1 := [.int (iI (eCr 2 WX WY 0 px.toInt py.toInt))]) (va_runV (As := [.int 0, .int px, .int py]) (rest := []) ⟨hx, hb, hml, hown, hts⟩ (k_Row_turn l dC dI cI cZ cF s.heap.size wy wx wz 2 2 WX WY rw 0 px py (by omega) (by omega) (hpw) (by omega) (by assumption) (by assumption)) (cwV 3 hts (zz_gV mw_707 mw_585 mw_586 mw_102 mc_yX7_turn) rfl rfl rfl (by decide +kernel) ⟨Nat.le_of_ble_eq_true rfl, Nat.le_of_ble_eq_true rfl⟩) (zPV2 (q0 := 0) (ci := 6) hPc hDc hK hXN rfl rfl) rfl rfl hl.1 rfl (lv_room (Nat.le_of_ble_eq_true rfl)) dX4_leadsTo_71 ⟨Nat.le_of_ble_eq_true rfl, Nat.le_of_ble_eq_true rfl⟩) hS hFc hFc rfl (fun t H1 locs ht hB hk1 hS => ?_)
  obtain ⟨hP1, hD1⟩ := hB
  rw [ht] at hP1
  obtain ⟨hP, hD⟩ := va_join (wr := [(oc3 lw (.ref dr) (.ref tg) (.ref wy) (.ref br) (.ref bo) (.ref aa))]) (w1 := [(oc6 wy (.ref wx) (.ref wz) (nI 2) rw), (oa wx cI 2 WX), (oa wz cI 2 WY)]) hP hD [1, 2, 3] [0] rfl rfl (by decide) (by decide) hk1 hFc hP1 hD1
  clear hk1 hPc hDc hFc hP1 hD1 ht
  generalize H1 = H at hP hS ⊢
  have hP : va_P (dC, dI) classes [(oc3 lw (.ref dr) (.ref tg) (.ref wy) (.ref br) (.ref bo) (.ref aa)), (oc6 wy (.ref wx) (.ref wz) (nI 2) rw), (oa wx cI 2 WX), (oa wz cI 2 WY)] H := hP
  have hD : va_D A [(oc3 lw (.ref dr) (.ref tg) (.ref wy) (.ref br) (.ref bo) (.ref aa)), (oc6 wy (.ref wx) (.ref wz) (nI 2) rw), (oa wx cI 2 WX), (oa wz cI 2 WY)] := hD
  refine lv_if_ne (tgt := 85) hx hb dX4_leadsTo_74 (by decide) (fun c_1 => ?_) (fun c_1 => ?_)
  · have c_1 : ¬ (eCr 2 WX WY 0 px.toInt py.toInt) = 0 := zc_ne (iI_toInt (by omega)) (by decide) c_1
    refine lv_iconst (v := 0) hx hb dX4_leadsTo_85 (by decide) ?_
    have hP9 := hP.sub (ws' := [(oc3 lw (.ref dr) (.ref tg) (.ref wy) (.ref br) (.ref bo) (.ref aa)), (oc6 wy (.ref wx) (.ref wz) (nI 2) rw), (oa wx cI 2 WX), (oa wz cI 2 WY)]) [0, 1, 2, 3] rfl
    have hD9 := hD.sub (ws' := [(oc3 lw (.ref dr) (.ref tg) (.ref wy) (.ref br) (.ref bo) (.ref aa)), (oc6 wy (.ref wx) (.ref wz) (nI 2) rw), (oa wx cI 2 WX), (oa wz cI 2 WY)]) [0, 1, 2, 3] (by decide) rfl
    rw [hQ9]
    exact W.zret (ty := .boolean) (v := 0) hx hb hr (rfl) (fun t ht hW => ⟨⟨congrArg (fun z => Outcome.returned (some (Value.int z))) (show (0 : Int32) = pI (ldT (WX 0).toInt (WY 0).toInt (WX 1).toInt (WY 1).toInt px.toInt py.toInt) from (zp_f (by unfold ldT; omega)).symm), by rw [ht]; exact hP9, hD9⟩, hS.F ht⟩) hS.2.2 dX4_leadsTo_86
  · have c_1 : (eCr 2 WX WY 0 px.toInt py.toInt) = 0 := zc_eq (iI_toInt (by omega)) (by decide) c_1
    refine lv_iload_n hx hb dX4_leadsTo_77 rfl (lv_at hl 0 rfl) ?_
    refine lv_if_le (tgt := 85) hx hb dX4_leadsTo_78 (by decide) (fun c_2 => ?_) (fun c_2 => ?_)
    · have c_2 : (nrT (WX 0).toInt (WY 0).toInt (WX 1).toInt (WY 1).toInt px.toInt py.toInt) ≤ 0 := zc_le (iI_toInt (by omega)) (by decide) c_2
      refine lv_iconst (v := 0) hx hb dX4_leadsTo_85 (by decide) ?_
      have hP9 := hP.sub (ws' := [(oc3 lw (.ref dr) (.ref tg) (.ref wy) (.ref br) (.ref bo) (.ref aa)), (oc6 wy (.ref wx) (.ref wz) (nI 2) rw), (oa wx cI 2 WX), (oa wz cI 2 WY)]) [0, 1, 2, 3] rfl
      have hD9 := hD.sub (ws' := [(oc3 lw (.ref dr) (.ref tg) (.ref wy) (.ref br) (.ref bo) (.ref aa)), (oc6 wy (.ref wx) (.ref wz) (nI 2) rw), (oa wx cI 2 WX), (oa wz cI 2 WY)]) [0, 1, 2, 3] (by decide) rfl
      rw [hQ9]
      exact W.zret (ty := .boolean) (v := 0) hx hb hr (rfl) (fun t ht hW => ⟨⟨congrArg (fun z => Outcome.returned (some (Value.int z))) (show (0 : Int32) = pI (ldT (WX 0).toInt (WY 0).toInt (WX 1).toInt (WY 1).toInt px.toInt py.toInt) from (zp_f (by unfold ldT; omega)).symm), by rw [ht]; exact hP9, hD9⟩, hS.F ht⟩) hS.2.2 dX4_leadsTo_86
    · have c_2 : 0 < (nrT (WX 0).toInt (WY 0).toInt (WX 1).toInt (WY 1).toInt px.toInt py.toInt) := zc_nle (iI_toInt (by omega)) (by decide) c_2
      refine lv_iconst (v := 1) hx hb dX4_leadsTo_81 (by decide) ?_
      refine lv_goto (tgt := 86) hx hb dX4_leadsTo_82 (by decide) ?_
      have hP9 := hP.sub (ws' := [(oc3 lw (.ref dr) (.ref tg) (.ref wy) (.ref br) (.ref bo) (.ref aa)), (oc6 wy (.ref wx) (.ref wz) (nI 2) rw), (oa wx cI 2 WX), (oa wz cI 2 WY)]) [0, 1, 2, 3] rfl
      have hD9 := hD.sub (ws' := [(oc3 lw (.ref dr) (.ref tg) (.ref wy) (.ref br) (.ref bo) (.ref aa)), (oc6 wy (.ref wx) (.ref wz) (nI 2) rw), (oa wx cI 2 WX), (oa wz cI 2 WY)]) [0, 1, 2, 3] (by decide) rfl
      rw [hQ9]
      exact W.zret (ty := .boolean) (v := 1) hx hb hr (rfl) (fun t ht hW => ⟨⟨congrArg (fun z => Outcome.returned (some (Value.int z))) (show (1 : Int32) = pI (ldT (WX 0).toInt (WY 0).toInt (WX 1).toInt (WY 1).toInt px.toInt py.toInt) from (zp_t (by unfold ldT; omega)).symm), by rw [ht]; exact hP9, hD9⟩, hS.F ht⟩) hS.2.2 dX4_leadsTo_86
set_option maxHeartbeats 4000000 in
set_option maxRecDepth 100000 in
theorem k_Law_isWayFree (l : Launch) (dC : Nat → ClassId) (dI : Nat → Nat → Nat) (cI cZ cF : ClassId) (sz : Nat) (lw : Nat) (dr : Nat) (tg : Nat) (wy : Nat) (br : Nat) (bo : Nat) (aa : Nat) (wx : Nat) (wz : Nat) (nw : Nat) (WX : Nat → Int32) (WY : Nat → Int32) (rw : Int32) (dx : Nat) (dy : Nat) (nd : Nat) (cd : Nat) (P : Nat → Int32) (Q : Nat → Int32) (rd : Int32) (r : Nat) (rx : Nat) (ry : Nat) (n : Nat) (cap : Nat) (X : Nat → Int32) (Y : Nat → Int32) (rg : Int32) (u : Nat) (ux : Nat) (uy : Nat) (m2 : Nat) (cap2 : Nat) (U : Nat → Int32) (V : Nat → Int32) (rh : Int32) (hnd : nd ≤ cd) (hcd : cd ≤ 1000) (hpd : pls nd P Q) (hn : n ≤ cap) (hcap : cap ≤ 1000) (hp : pls n X Y) (hm : m2 ≤ cap2) (hcap2 : cap2 ≤ 1000) (hq : pls m2 U V) (h1n : 1 ≤ n) (h1d : 1 ≤ nd) : Met l yX4_isWayFree (.code yX4_isWayFree cX4_isWayFree 5 (some .boolean) :: ws0) ({ frames := 2, cells := 0, slots := 0, locals := 48 } : Room) (va_Pc [.ref lw, .ref r, .ref u] (zPre (dC, dI) classes (zTy cI cZ cF) [(oc3 lw (.ref dr) (.ref tg) (.ref wy) (.ref br) (.ref bo) (.ref aa)), (oc6 wy (.ref wx) (.ref wz) (nI nw) rw), (oa wx cI 2 WX), (oa wz cI 2 WY), (oc6 dr (.ref dx) (.ref dy) (nI nd) rd), (oa dx cI cd P), (oa dy cI cd Q), (oc6 r (.ref rx) (.ref ry) (nI n) rg), (oa rx cI cap X), (oa ry cI cap Y), (oc6 u (.ref ux) (.ref uy) (nI m2) rh), (oa ux cI cap2 U), (oa uy cI cap2 V)] sz zXN)) (zQ (some (.int (pI (∀ k, k < prt m2 rh → wyF2 (X 0).toInt (Y 0).toInt (P 0).toInt (Q 0).toInt m2 U V k)))) (fun t => va_P (dC, dI) classes [(oc3 lw (.ref dr) (.ref tg) (.ref wy) (.ref br) (.ref bo) (.ref aa)), (oc6 wy (.ref wx) (.ref wz) (nI 2) 0), (oa wx cI 2 (upd (upd WX 0 (X 0)) 1 (P 0))), (oa wz cI 2 (upd (upd WY 0 (Y 0)) 1 (Q 0))), (oc6 dr (.ref dx) (.ref dy) (nI nd) rd), (oa dx cI cd P), (oa dy cI cd Q), (oc6 r (.ref rx) (.ref ry) (nI n) rg), (oa rx cI cap X), (oa ry cI cap Y), (oc6 u (.ref ux) (.ref uy) (nI m2) rh), (oa ux cI cap2 U), (oa uy cI cap2 V)] t.heap ∧ va_D (va_A [(oc3 lw (.ref dr) (.ref tg) (.ref wy) (.ref br) (.ref bo) (.ref aa)), (oc6 wy (.ref wx) (.ref wz) (nI nw) rw), (oa wx cI 2 WX), (oa wz cI 2 WY), (oc6 dr (.ref dx) (.ref dy) (nI nd) rd), (oa dx cI cd P), (oa dy cI cd Q), (oc6 r (.ref rx) (.ref ry) (nI n) rg), (oa rx cI cap X), (oa ry cI cap Y), (oc6 u (.ref ux) (.ref uy) (nI m2) rh), (oa ux cI cap2 U), (oa uy cI cap2 V)] sz) [(oc3 lw (.ref dr) (.ref tg) (.ref wy) (.ref br) (.ref bo) (.ref aa)), (oc6 wy (.ref wx) (.ref wz) (nI 2) 0), (oa wx cI 2 (upd (upd WX 0 (X 0)) 1 (P 0))), (oa wz cI 2 (upd (upd WY 0 (Y 0)) 1 (Q 0))), (oc6 dr (.ref dx) (.ref dy) (nI nd) rd), (oa dx cI cd P), (oa dy cI cd Q), (oc6 r (.ref rx) (.ref ry) (nI n) rg), (oa rx cI cap X), (oa ry cI cap Y), (oc6 u (.ref ux) (.ref uy) (nI m2) rh), (oa ux cI cap2 U), (oa uy cI cap2 V)]) (va_A [(oc3 lw (.ref dr) (.ref tg) (.ref wy) (.ref br) (.ref bo) (.ref aa)), (oc6 wy (.ref wx) (.ref wz) (nI nw) rw), (oa wx cI 2 WX), (oa wz cI 2 WY), (oc6 dr (.ref dx) (.ref dy) (nI nd) rd), (oa dx cI cd P), (oa dy cI cd Q), (oc6 r (.ref rx) (.ref ry) (nI n) rg), (oa rx cI cap X), (oa ry cI cap Y), (oc6 u (.ref ux) (.ref uy) (nI m2) rh), (oa ux cI cap2 U), (oa uy cI cap2 V)] sz)) 0 0 (va_A [(oc3 lw (.ref dr) (.ref tg) (.ref wy) (.ref br) (.ref bo) (.ref aa)), (oc6 wy (.ref wx) (.ref wz) (nI nw) rw), (oa wx cI 2 WX), (oa wz cI 2 WY), (oc6 dr (.ref dx) (.ref dy) (nI nd) rd), (oa dx cI cd P), (oa dy cI cd Q), (oc6 r (.ref rx) (.ref ry) (nI n) rg), (oa rx cI cap X), (oa ry cI cap Y), (oc6 u (.ref ux) (.ref uy) (nI m2) rh), (oa ux cI cap2 U), (oa uy cI cap2 V)] sz) := by
  refine Met.ofW (cc := cX4_isWayFree) (maxL := 5) (ret := (some .boolean)) (by decide) rfl ?_
  intro p e s m args below meth c s₁ B hml hv
  obtain ⟨rfl, hsz, hP, hK, hD0, hXN⟩ := hv
  have hx := B.exec
  have hb := B.bytes
  have hr := B.returns
  have hts0 := atoms_spec (ws := .code yX4_isWayFree cX4_isWayFree 5 (some .boolean) :: ws0) B.pre
  have hts : ∀ w9 ∈ ws0, w9.before ([.ref lw, .ref r, .ref u] : List Value).toArray s = true := fun w9 h => hts0 w9 (List.mem_cons_of_mem _ h)
  have hown : s.vm.findClass "ScaleShop$Law" = some m.cls := findClass_of_methodNamed B.named
  have hlocks := B.notSynchronized
  subst hsz
  have hD := hD0.self (sz := s.heap.size)
  clear hD0
  generalize hAe : va_A [(oc3 lw (.ref dr) (.ref tg) (.ref wy) (.ref br) (.ref bo) (.ref aa)), (oc6 wy (.ref wx) (.ref wz) (nI nw) rw), (oa wx cI 2 WX), (oa wz cI 2 WY), (oc6 dr (.ref dx) (.ref dy) (nI nd) rd), (oa dx cI cd P), (oa dy cI cd Q), (oc6 r (.ref rx) (.ref ry) (nI n) rg), (oa rx cI cap X), (oa ry cI cap Y), (oc6 u (.ref ux) (.ref uy) (nI m2) rh), (oa ux cI cap2 U), (oa uy cI cap2 V)] s.heap.size = A at hD ⊢
  have hA : ∀ q : Nat, s.heap.size ≤ q → A q := fun q h => by rw [← hAe]; exact Or.inr h
  clear hAe
  have hS : va_S A s.heap s.heap [] := va_S.rf
  have hP : va_P (dC, dI) classes [(oc3 lw (.ref dr) (.ref tg) (.ref wy) (.ref br) (.ref bo) (.ref aa)), (oc6 wy (.ref wx) (.ref wz) (nI nw) rw), (oa wx cI 2 WX), (oa wz cI 2 WY), (oc6 dr (.ref dx) (.ref dy) (nI nd) rd), (oa dx cI cd P), (oa dy cI cd Q), (oc6 r (.ref rx) (.ref ry) (nI n) rg), (oa rx cI cap X), (oa ry cI cap Y), (oc6 u (.ref ux) (.ref uy) (nI m2) rh), (oa ux cI cap2 U), (oa uy cI cap2 V)] s.heap := hP
  obtain ⟨Q9, hQ9⟩ : ∃ Q9 : State → Prop, Q9 = MQ below (zQ (some (.int (pI (∀ k, k < prt m2 rh → wyF2 (X 0).toInt (Y 0).toInt (P 0).toInt (Q 0).toInt m2 U V k)))) (fun t => va_P (dC, dI) classes [(oc3 lw (.ref dr) (.ref tg) (.ref wy) (.ref br) (.ref bo) (.ref aa)), (oc6 wy (.ref wx) (.ref wz) (nI 2) 0), (oa wx cI 2 (upd (upd WX 0 (X 0)) 1 (P 0))), (oa wz cI 2 (upd (upd WY 0 (Y 0)) 1 (Q 0))), (oc6 dr (.ref dx) (.ref dy) (nI nd) rd), (oa dx cI cd P), (oa dy cI cd Q), (oc6 r (.ref rx) (.ref ry) (nI n) rg), (oa rx cI cap X), (oa ry cI cap Y), (oc6 u (.ref ux) (.ref uy) (nI m2) rh), (oa ux cI cap2 U), (oa uy cI cap2 V)] t.heap ∧ va_D A [(oc3 lw (.ref dr) (.ref tg) (.ref wy) (.ref br) (.ref bo) (.ref aa)), (oc6 wy (.ref wx) (.ref wz) (nI 2) 0), (oa wx cI 2 (upd (upd WX 0 (X 0)) 1 (P 0))), (oa wz cI 2 (upd (upd WY 0 (Y 0)) 1 (Q 0))), (oc6 dr (.ref dx) (.ref dy) (nI nd) rd), (oa dx cI cd P), (oa dy cI cd Q), (oc6 r (.ref rx) (.ref ry) (nI n) rg), (oa rx cI cap X), (oa ry cI cap Y), (oc6 u (.ref ux) (.ref uy) (nI m2) rh), (oa ux cI cap2 U), (oa uy cI cap2 V)]) A) ([.ref lw, .ref r, .ref u] : List Value).toArray s 0 0 A := ⟨_, rfl⟩
  rw [← hQ9]
  have hl := lv_entry ([.ref lw, .ref r, .ref u]) (n := 5) (Nat.le_of_ble_eq_true rfl)
  rw [lg_entry_eq]
  generalize (lg_sl ([.ref lw, .ref r, .ref u]) ++ List.replicate (5 - (lg_sl ([.ref lw, .ref r, .ref u])).length) Slot.unset).toArray = ls at hl ⊢
  have hl : lv_has ls 5 [(0, .ref lw), (1, .ref r), (2, .ref u)] := hl
  have hpr2 := prt_le m2 rh
  have h0x := hp 0 (by omega)
  have h0p := hpd 0 (by omega)
  have hpw := wy_pl (T := WX) (S := WY) h0x.1 h0x.2 h0p.1 h0p.2
  refine lv_aload_n hx hb dX4_isWayFree_0 rfl (lv_at hl 0 rfl) ?_
  refine va_get (D := (dC, dI)) (ci := 3) (v := .ref wy) (C := RX4) (T := TX4) (N := 6) hx hb hts inX4 hown hK hP 0 rfl rfl 2 (by decide) (hts _ mw_222) (fun _ h9 => h9) rfl dX4_isWayFree_1 ?_
  refine lv_iconst (v := 0) hx hb dX4_isWayFree_4 (by decide) ?_
  have hPc := hP.sub (ws' := [(oc6 wy (.ref wx) (.ref wz) (nI nw) rw), (oa wx cI 2 WX), (oa wz cI 2 WY)]) [1, 2, 3] rfl
  have hDc := hD.sub (ws' := [(oc6 wy (.ref wx) (.ref wz) (nI nw) rw), (oa wx cI 2 WX), (oa wz cI 2 WY)]) [1, 2, 3] (by decide) rfl
  have hFc := va_free (wc := [(oc6 wy (.ref wx) (.ref wz) (nI nw) rw), (oa wx cI 2 WX), (oa wz cI 2 WY)]) hD hS hA [1, 2, 3] rfl
  refine zcall (st1 := []) (va_runV (As := [.int 0]) (rest := []) ⟨hx, hb, hml, hown, hts⟩ (k_Row_clear l dC dI cI cZ cF s.heap.size wy wx wz nw 2 WX WY rw 0 (Or.inl rfl)) (cwV 1 hts (zz_gV mw_698 mw_600 mw_601 mw_102 mc_yX7_clear) rfl rfl rfl (by decide +kernel) ⟨Nat.le_of_ble_eq_true rfl, Nat.le_of_ble_eq_true rfl⟩) (zPV2 (q0 := 0) (ci := 6) hPc hDc hK hXN rfl rfl) rfl rfl hl.1 rfl (lv_room (Nat.le_of_ble_eq_true rfl)) dX4_isWayFree_5 ⟨Nat.le_of_ble_eq_true rfl, Nat.le_of_ble_eq_true rfl⟩) hS hFc hFc rfl (fun t H1 locs ht hB hk1 hS => ?_)
  obtain ⟨hP1, hD1⟩ := hB
  rw [ht] at hP1
  obtain ⟨hP, hD⟩ := va_join (wr := [(oc3 lw (.ref dr) (.ref tg) (.ref wy) (.ref br) (.ref bo) (.ref aa)), (oc6 dr (.ref dx) (.ref dy) (nI nd) rd), (oa dx cI cd P), (oa dy cI cd Q), (oc6 r (.ref rx) (.ref ry) (nI n) rg), (oa rx cI cap X), (oa ry cI cap Y), (oc6 u (.ref ux) (.ref uy) (nI m2) rh), (oa ux cI cap2 U), (oa uy cI cap2 V)]) (w1 := [(oc6 wy (.ref wx) (.ref wz) (nI 0) 0), (oa wx cI 2 WX), (oa wz cI 2 WY)]) hP hD [1, 2, 3] [0, 4, 5, 6, 7, 8, 9, 10, 11, 12] rfl rfl (by decide) (by decide) hk1 hFc hP1 hD1
  clear hk1 hPc hDc hFc hP1 hD1 ht
  generalize H1 = H at hP hS ⊢
  have hP := hP.sub (ws' := [(oc3 lw (.ref dr) (.ref tg) (.ref wy) (.ref br) (.ref bo) (.ref aa)), (oc6 wy (.ref wx) (.ref wz) (nI 0) 0), (oa wx cI 2 WX), (oa wz cI 2 WY), (oc6 dr (.ref dx) (.ref dy) (nI nd) rd), (oa dx cI cd P), (oa dy cI cd Q), (oc6 r (.ref rx) (.ref ry) (nI n) rg), (oa rx cI cap X), (oa ry cI cap Y), (oc6 u (.ref ux) (.ref uy) (nI m2) rh), (oa ux cI cap2 U), (oa uy cI cap2 V)]) [0, 10, 11, 12, 1, 2, 3, 4, 5, 6, 7, 8, 9] rfl
  have hD := hD.sub (ws' := [(oc3 lw (.ref dr) (.ref tg) (.ref wy) (.ref br) (.ref bo) (.ref aa)), (oc6 wy (.ref wx) (.ref wz) (nI 0) 0), (oa wx cI 2 WX), (oa wz cI 2 WY), (oc6 dr (.ref dx) (.ref dy) (nI nd) rd), (oa dx cI cd P), (oa dy cI cd Q), (oc6 r (.ref rx) (.ref ry) (nI n) rg), (oa rx cI cap X), (oa ry cI cap Y), (oc6 u (.ref ux) (.ref uy) (nI m2) rh), (oa ux cI cap2 U), (oa uy cI cap2 V)]) [0, 10, 11, 12, 1, 2, 3, 4, 5, 6, 7, 8, 9] (by decide) rfl
  have hP : va_P (dC, dI) classes [(oc3 lw (.ref dr) (.ref tg) (.ref wy) (.ref br) (.ref bo) (.ref aa)), (oc6 wy (.ref wx) (.ref wz) (nI 0) 0), (oa wx cI 2 WX), (oa wz cI 2 WY), (oc6 dr (.ref dx) (.ref dy) (nI nd) rd), (oa dx cI cd P), (oa dy cI cd Q), (oc6 r (.ref rx) (.ref ry) (nI n) rg), (oa rx cI cap X), (oa ry cI cap Y), (oc6 u (.ref ux) (.ref uy) (nI m2) rh), (oa ux cI cap2 U), (oa uy cI cap2 V)] H := hP
  have hD : va_D A [(oc3 lw (.ref dr) (.ref tg) (.ref wy) (.ref br) (.ref bo) (.ref aa)), (oc6 wy (.ref wx) (.ref wz) (nI 0) 0), (oa wx cI 2 WX), (oa wz cI 2 WY), (oc6 dr (.ref dx) (.ref dy) (nI nd) rd), (oa dx cI cd P), (oa dy cI cd Q), (oc6 r (.ref rx) (.ref ry) (nI n) rg), (oa rx cI cap X), (oa ry cI cap Y), (oc6 u (.ref ux) (.ref uy) (nI m2) rh), (oa ux cI cap2 U), (oa uy cI cap2 V)] := hD
  refine lv_aload_n hx hb dX4_isWayFree_8 rfl (lv_at hl 0 rfl) ?_
  refine va_get (D := (dC, dI)) (ci := 3) (v := .ref wy) (C := RX4) (T := TX4) (N := 6) hx hb hts inX4 hown hK hP 0 rfl rfl 2 (by decide) (hts _ mw_222) (fun _ h9 => h9) rfl dX4_isWayFree_9 ?_
  refine lv_aload_n hx hb dX4_isWayFree_12 rfl (lv_at hl 1 rfl) ?_
  refine va_get (D := (dC, dI)) (ci := 6) (v := .ref rx) (C := RX7) (T := TX7) (N := 4) hx hb hts inX7 hown hK hP 7 rfl rfl 0 (by decide) (hts _ mw_163) (fun _ h9 => h9) rfl dX4_isWayFree_13 ?_
  refine lv_iconst (v := 0) hx hb dX4_isWayFree_16 (by decide) ?_
  refine z_iald hx hb hK hP 8 0 rfl rfl (e := 0) rfl (by omega) (by omega) dX4_isWayFree_17 ?_
  refine lv_aload_n hx hb dX4_isWayFree_18 rfl (lv_at hl 1 rfl) ?_
  refine va_get (D := (dC, dI)) (ci := 6) (v := .ref ry) (C := RX7) (T := TX7) (N := 4) hx hb hts inX7 hown hK hP 7 rfl rfl 1 (by decide) (hts _ mw_170) (fun _ h9 => h9) rfl dX4_isWayFree_19 ?_
  refine lv_iconst (v := 0) hx hb dX4_isWayFree_22 (by decide) ?_
  refine z_iald hx hb hK hP 9 0 rfl rfl (e := 0) rfl (by omega) (by omega) dX4_isWayFree_23 ?_
  have hPc := hP.sub (ws' := [(oc6 wy (.ref wx) (.ref wz) (nI 0) 0), (oa wx cI 2 WX), (oa wz cI 2 WY)]) [1, 2, 3] rfl
  have hDc := hD.sub (ws' := [(oc6 wy (.ref wx) (.ref wz) (nI 0) 0), (oa wx cI 2 WX), (oa wz cI 2 WY)]) [1, 2, 3] (by decide) rfl
  have hFc := va_free (wc := [(oc6 wy (.ref wx) (.ref wz) (nI 0) 0), (oa wx cI 2 WX), (oa wz cI 2 WY)]) hD hS hA [1, 2, 3] rfl
  refine zcall (st1 := []) (va_runV (As := [.int (X 0), .int (Y 0)]) (rest := []) ⟨hx, hb, hml, hown, hts⟩ (k_Row_put l dC dI cI cZ cF H.size wy wx wz 0 2 WX WY 0 (X 0) (Y 0) (by omega) (by omega)) (cwV 2 hts (zz_gV mw_699 mw_506 mw_507 mw_102 mc_yX7_put) rfl rfl rfl (by decide +kernel) ⟨Nat.le_of_ble_eq_true rfl, Nat.le_of_ble_eq_true rfl⟩) (zPV2 (q0 := 0) (ci := 6) hPc hDc hK hXN rfl rfl) rfl rfl hl.1 rfl (lv_room (Nat.le_of_ble_eq_true rfl)) dX4_isWayFree_24 ⟨Nat.le_of_ble_eq_true rfl, Nat.le_of_ble_eq_true rfl⟩) hS hFc hFc rfl (fun t H1 locs ht hB hk1 hS => ?_)
  obtain ⟨hP1, hD1⟩ := hB
  rw [ht] at hP1
  obtain ⟨hP, hD⟩ := va_join (wr := [(oc3 lw (.ref dr) (.ref tg) (.ref wy) (.ref br) (.ref bo) (.ref aa)), (oc6 dr (.ref dx) (.ref dy) (nI nd) rd), (oa dx cI cd P), (oa dy cI cd Q), (oc6 r (.ref rx) (.ref ry) (nI n) rg), (oa rx cI cap X), (oa ry cI cap Y), (oc6 u (.ref ux) (.ref uy) (nI m2) rh), (oa ux cI cap2 U), (oa uy cI cap2 V)]) (w1 := [(oc6 wy (.ref wx) (.ref wz) (nI (0 + 1)) 0), (oa wx cI 2 (upd WX 0 (X 0))), (oa wz cI 2 (upd WY 0 (Y 0)))]) hP hD [1, 2, 3] [0, 4, 5, 6, 7, 8, 9, 10, 11, 12] rfl rfl (by decide) (by decide) hk1 hFc hP1 hD1
  clear hk1 hPc hDc hFc hP1 hD1 ht
  generalize H1 = H at hP hS ⊢
  have hP := hP.sub (ws' := [(oc3 lw (.ref dr) (.ref tg) (.ref wy) (.ref br) (.ref bo) (.ref aa)), (oc6 wy (.ref wx) (.ref wz) (nI (0 + 1)) 0), (oa wx cI 2 (upd WX 0 (X 0))), (oa wz cI 2 (upd WY 0 (Y 0))), (oc6 dr (.ref dx) (.ref dy) (nI nd) rd), (oa dx cI cd P), (oa dy cI cd Q), (oc6 r (.ref rx) (.ref ry) (nI n) rg), (oa rx cI cap X), (oa ry cI cap Y), (oc6 u (.ref ux) (.ref uy) (nI m2) rh), (oa ux cI cap2 U), (oa uy cI cap2 V)]) [0, 10, 11, 12, 1, 2, 3, 4, 5, 6, 7, 8, 9] rfl
  have hD := hD.sub (ws' := [(oc3 lw (.ref dr) (.ref tg) (.ref wy) (.ref br) (.ref bo) (.ref aa)), (oc6 wy (.ref wx) (.ref wz) (nI (0 + 1)) 0), (oa wx cI 2 (upd WX 0 (X 0))), (oa wz cI 2 (upd WY 0 (Y 0))), (oc6 dr (.ref dx) (.ref dy) (nI nd) rd), (oa dx cI cd P), (oa dy cI cd Q), (oc6 r (.ref rx) (.ref ry) (nI n) rg), (oa rx cI cap X), (oa ry cI cap Y), (oc6 u (.ref ux) (.ref uy) (nI m2) rh), (oa ux cI cap2 U), (oa uy cI cap2 V)]) [0, 10, 11, 12, 1, 2, 3, 4, 5, 6, 7, 8, 9] (by decide) rfl
  have hP : va_P (dC, dI) classes [(oc3 lw (.ref dr) (.ref tg) (.ref wy) (.ref br) (.ref bo) (.ref aa)), (oc6 wy (.ref wx) (.ref wz) (nI (0 + 1)) 0), (oa wx cI 2 (upd WX 0 (X 0))), (oa wz cI 2 (upd WY 0 (Y 0))), (oc6 dr (.ref dx) (.ref dy) (nI nd) rd), (oa dx cI cd P), (oa dy cI cd Q), (oc6 r (.ref rx) (.ref ry) (nI n) rg), (oa rx cI cap X), (oa ry cI cap Y), (oc6 u (.ref ux) (.ref uy) (nI m2) rh), (oa ux cI cap2 U), (oa uy cI cap2 V)] H := hP
  have hD : va_D A [(oc3 lw (.ref dr) (.ref tg) (.ref wy) (.ref br) (.ref bo) (.ref aa)), (oc6 wy (.ref wx) (.ref wz) (nI (0 + 1)) 0), (oa wx cI 2 (upd WX 0 (X 0))), (oa wz cI 2 (upd WY 0 (Y 0))), (oc6 dr (.ref dx) (.ref dy) (nI nd) rd), (oa dx cI cd P), (oa dy cI cd Q), (oc6 r (.ref rx) (.ref ry) (nI n) rg), (oa rx cI cap X), (oa ry cI cap Y), (oc6 u (.ref ux) (.ref uy) (nI m2) rh), (oa ux cI cap2 U), (oa uy cI cap2 V)] := hD
  refine lv_aload_n hx hb dX4_isWayFree_27 rfl (lv_at hl 0 rfl) ?_
  refine va_get (D := (dC, dI)) (ci := 3) (v := .ref wy) (C := RX4) (T := TX4) (N := 6) hx hb hts inX4 hown hK hP 0 rfl rfl 2 (by decide) (hts _ mw_222) (fun _ h9 => h9) rfl dX4_isWayFree_28 ?_
  refine lv_aload_n hx hb dX4_isWayFree_31 rfl (lv_at hl 0 rfl) ?_
  refine va_get (D := (dC, dI)) (ci := 3) (v := .ref dr) (C := RX4) (T := TX4) (N := 6) hx hb hts inX4 hown hK hP 0 rfl rfl 0 (by decide) (hts _ mw_219) (fun _ h9 => h9) rfl dX4_isWayFree_32 ?_
  refine va_get (D := (dC, dI)) (ci := 6) (v := .ref dx) (C := RX7) (T := TX7) (N := 4) hx hb hts inX7 hown hK hP 4 rfl rfl 0 (by decide) (hts _ mw_163) (fun _ h9 => h9) rfl dX4_isWayFree_35 ?_
  refine lv_iconst (v := 0) hx hb dX4_isWayFree_38 (by decide) ?_
  refine z_iald hx hb hK hP 5 0 rfl rfl (e := 0) rfl (by omega) (by omega) dX4_isWayFree_39 ?_
  refine lv_aload_n hx hb dX4_isWayFree_40 rfl (lv_at hl 0 rfl) ?_
  refine va_get (D := (dC, dI)) (ci := 3) (v := .ref dr) (C := RX4) (T := TX4) (N := 6) hx hb hts inX4 hown hK hP 0 rfl rfl 0 (by decide) (hts _ mw_219) (fun _ h9 => h9) rfl dX4_isWayFree_41 ?_
  refine va_get (D := (dC, dI)) (ci := 6) (v := .ref dy) (C := RX7) (T := TX7) (N := 4) hx hb hts inX7 hown hK hP 4 rfl rfl 1 (by decide) (hts _ mw_170) (fun _ h9 => h9) rfl dX4_isWayFree_44 ?_
  refine lv_iconst (v := 0) hx hb dX4_isWayFree_47 (by decide) ?_
  refine z_iald hx hb hK hP 6 0 rfl rfl (e := 0) rfl (by omega) (by omega) dX4_isWayFree_48 ?_
  have hPc := hP.sub (ws' := [(oc6 wy (.ref wx) (.ref wz) (nI (0 + 1)) 0), (oa wx cI 2 (upd WX 0 (X 0))), (oa wz cI 2 (upd WY 0 (Y 0)))]) [1, 2, 3] rfl
  have hDc := hD.sub (ws' := [(oc6 wy (.ref wx) (.ref wz) (nI (0 + 1)) 0), (oa wx cI 2 (upd WX 0 (X 0))), (oa wz cI 2 (upd WY 0 (Y 0)))]) [1, 2, 3] (by decide) rfl
  have hFc := va_free (wc := [(oc6 wy (.ref wx) (.ref wz) (nI (0 + 1)) 0), (oa wx cI 2 (upd WX 0 (X 0))), (oa wz cI 2 (upd WY 0 (Y 0)))]) hD hS hA [1, 2, 3] rfl
  refine zcall (st1 := []) (va_runV (As := [.int (P 0), .int (Q 0)]) (rest := []) ⟨hx, hb, hml, hown, hts⟩ (k_Row_put l dC dI cI cZ cF H.size wy wx wz (0 + 1) 2 (upd WX 0 (X 0)) (upd WY 0 (Y 0)) 0 (P 0) (Q 0) (by omega) (by omega)) (cwV 2 hts (zz_gV mw_699 mw_506 mw_507 mw_102 mc_yX7_put) rfl rfl rfl (by decide +kernel) ⟨Nat.le_of_ble_eq_true rfl, Nat.le_of_ble_eq_true rfl⟩) (zPV2 (q0 := 0) (ci := 6) hPc hDc hK hXN rfl rfl) rfl rfl hl.1 rfl (lv_room (Nat.le_of_ble_eq_true rfl)) dX4_isWayFree_49 ⟨Nat.le_of_ble_eq_true rfl, Nat.le_of_ble_eq_true rfl⟩) hS hFc hFc rfl (fun t H1 locs ht hB hk1 hS => ?_)
  obtain ⟨hP1, hD1⟩ := hB
  rw [ht] at hP1
  obtain ⟨hP, hD⟩ := va_join (wr := [(oc3 lw (.ref dr) (.ref tg) (.ref wy) (.ref br) (.ref bo) (.ref aa)), (oc6 dr (.ref dx) (.ref dy) (nI nd) rd), (oa dx cI cd P), (oa dy cI cd Q), (oc6 r (.ref rx) (.ref ry) (nI n) rg), (oa rx cI cap X), (oa ry cI cap Y), (oc6 u (.ref ux) (.ref uy) (nI m2) rh), (oa ux cI cap2 U), (oa uy cI cap2 V)]) (w1 := [(oc6 wy (.ref wx) (.ref wz) (nI ((0 + 1) + 1)) 0), (oa wx cI 2 (upd (upd WX 0 (X 0)) (0 + 1) (P 0))), (oa wz cI 2 (upd (upd WY 0 (Y 0)) (0 + 1) (Q 0)))]) hP hD [1, 2, 3] [0, 4, 5, 6, 7, 8, 9, 10, 11, 12] rfl rfl (by decide) (by decide) hk1 hFc hP1 hD1
  clear hk1 hPc hDc hFc hP1 hD1 ht
  generalize H1 = H at hP hS ⊢
  have hP := hP.sub (ws' := [(oc3 lw (.ref dr) (.ref tg) (.ref wy) (.ref br) (.ref bo) (.ref aa)), (oc6 wy (.ref wx) (.ref wz) (nI ((0 + 1) + 1)) 0), (oa wx cI 2 (upd (upd WX 0 (X 0)) (0 + 1) (P 0))), (oa wz cI 2 (upd (upd WY 0 (Y 0)) (0 + 1) (Q 0))), (oc6 dr (.ref dx) (.ref dy) (nI nd) rd), (oa dx cI cd P), (oa dy cI cd Q), (oc6 r (.ref rx) (.ref ry) (nI n) rg), (oa rx cI cap X), (oa ry cI cap Y), (oc6 u (.ref ux) (.ref uy) (nI m2) rh), (oa ux cI cap2 U), (oa uy cI cap2 V)]) [0, 10, 11, 12, 1, 2, 3, 4, 5, 6, 7, 8, 9] rfl
  have hD := hD.sub (ws' := [(oc3 lw (.ref dr) (.ref tg) (.ref wy) (.ref br) (.ref bo) (.ref aa)), (oc6 wy (.ref wx) (.ref wz) (nI ((0 + 1) + 1)) 0), (oa wx cI 2 (upd (upd WX 0 (X 0)) (0 + 1) (P 0))), (oa wz cI 2 (upd (upd WY 0 (Y 0)) (0 + 1) (Q 0))), (oc6 dr (.ref dx) (.ref dy) (nI nd) rd), (oa dx cI cd P), (oa dy cI cd Q), (oc6 r (.ref rx) (.ref ry) (nI n) rg), (oa rx cI cap X), (oa ry cI cap Y), (oc6 u (.ref ux) (.ref uy) (nI m2) rh), (oa ux cI cap2 U), (oa uy cI cap2 V)]) [0, 10, 11, 12, 1, 2, 3, 4, 5, 6, 7, 8, 9] (by decide) rfl
  have hP : va_P (dC, dI) classes [(oc3 lw (.ref dr) (.ref tg) (.ref wy) (.ref br) (.ref bo) (.ref aa)), (oc6 wy (.ref wx) (.ref wz) (nI ((0 + 1) + 1)) 0), (oa wx cI 2 (upd (upd WX 0 (X 0)) (0 + 1) (P 0))), (oa wz cI 2 (upd (upd WY 0 (Y 0)) (0 + 1) (Q 0))), (oc6 dr (.ref dx) (.ref dy) (nI nd) rd), (oa dx cI cd P), (oa dy cI cd Q), (oc6 r (.ref rx) (.ref ry) (nI n) rg), (oa rx cI cap X), (oa ry cI cap Y), (oc6 u (.ref ux) (.ref uy) (nI m2) rh), (oa ux cI cap2 U), (oa uy cI cap2 V)] H := hP
  have hD : va_D A [(oc3 lw (.ref dr) (.ref tg) (.ref wy) (.ref br) (.ref bo) (.ref aa)), (oc6 wy (.ref wx) (.ref wz) (nI ((0 + 1) + 1)) 0), (oa wx cI 2 (upd (upd WX 0 (X 0)) (0 + 1) (P 0))), (oa wz cI 2 (upd (upd WY 0 (Y 0)) (0 + 1) (Q 0))), (oc6 dr (.ref dx) (.ref dy) (nI nd) rd), (oa dx cI cd P), (oa dy cI cd Q), (oc6 r (.ref rx) (.ref ry) (nI n) rg), (oa rx cI cap X), (oa ry cI cap Y), (oc6 u (.ref ux) (.ref uy) (nI m2) rh), (oa ux cI cap2 U), (oa uy cI cap2 V)] := hD
  have hP : va_P (dC, dI) classes [(oc3 lw (.ref dr) (.ref tg) (.ref wy) (.ref br) (.ref bo) (.ref aa)), (oc6 wy (.ref wx) (.ref wz) (nI (2)) 0), (oa wx cI 2 (upd (upd WX 0 (X 0)) 1 (P 0))), (oa wz cI 2 (upd (upd WY 0 (Y 0)) 1 (Q 0))), (oc6 dr (.ref dx) (.ref dy) (nI nd) rd), (oa dx cI cd P), (oa dy cI cd Q), (oc6 r (.ref rx) (.ref ry) (nI n) rg), (oa rx cI cap X), (oa ry cI cap Y), (oc6 u (.ref ux) (.ref uy) (nI m2) rh), (oa ux cI cap2 U), (oa uy cI cap2 V)] H := hP
  have hD : va_D A [(oc3 lw (.ref dr) (.ref tg) (.ref wy) (.ref br) (.ref bo) (.ref aa)), (oc6 wy (.ref wx) (.ref wz) (nI (2)) 0), (oa wx cI 2 (upd (upd WX 0 (X 0)) 1 (P 0))), (oa wz cI 2 (upd (upd WY 0 (Y 0)) 1 (Q 0))), (oc6 dr (.ref dx) (.ref dy) (nI nd) rd), (oa dx cI cd P), (oa dy cI cd Q), (oc6 r (.ref rx) (.ref ry) (nI n) rg), (oa rx cI cap X), (oa ry cI cap Y), (oc6 u (.ref ux) (.ref uy) (nI m2) rh), (oa ux cI cap2 U), (oa uy cI cap2 V)] := hD
  refine lv_iconst (v := 0) hx hb dX4_isWayFree_52 (by decide) ?_
  refine lv_istore_n (lv' := [(3, .int 0), (0, .ref lw), (1, .ref r), (2, .ref u)]) hx hb dX4_isWayFree_53 rfl hl (by decide) rfl (fun ls hl => ?_)
  have hl_54 : ∀ (n9 : Nat) (k : Nat) (H : Heap) (locs : List Loc) (ls : Array Slot), prt m2 rh - k < n9 → (k ≤ prt m2 rh) → (∀ j, j < k → wyF2 (X 0).toInt (Y 0).toInt (P 0).toInt (Q 0).toInt m2 U V j) → va_P (dC, dI) classes [(oc3 lw (.ref dr) (.ref tg) (.ref wy) (.ref br) (.ref bo) (.ref aa)), (oc6 wy (.ref wx) (.ref wz) (nI (2)) 0), (oa wx cI 2 (upd (upd WX 0 (X 0)) 1 (P 0))), (oa wz cI 2 (upd (upd WY 0 (Y 0)) 1 (Q 0))), (oc6 dr (.ref dx) (.ref dy) (nI nd) rd), (oa dx cI cd P), (oa dy cI cd Q), (oc6 r (.ref rx) (.ref ry) (nI n) rg), (oa rx cI cap X), (oa ry cI cap Y), (oc6 u (.ref ux) (.ref uy) (nI m2) rh), (oa ux cI cap2 U), (oa uy cI cap2 V)] H → va_D A [(oc3 lw (.ref dr) (.ref tg) (.ref wy) (.ref br) (.ref bo) (.ref aa)), (oc6 wy (.ref wx) (.ref wz) (nI (2)) 0), (oa wx cI 2 (upd (upd WX 0 (X 0)) 1 (P 0))), (oa wz cI 2 (upd (upd WY 0 (Y 0)) 1 (Q 0))), (oc6 dr (.ref dx) (.ref dy) (nI nd) rd), (oa dx cI cd P), (oa dy cI cd Q), (oc6 r (.ref rx) (.ref ry) (nI n) rg), (oa rx cI cap X), (oa ry cI cap Y), (oc6 u (.ref ux) (.ref uy) (nI m2) rh), (oa ux cI cap2 U), (oa uy cI cap2 V)] → va_S A s.heap H locs → lv_has ls 5 [(3, .int (nI k)), (0, .ref lw), (1, .ref r), (2, .ref u)] → W p l e ((headSpec (.code yX4_isWayFree cX4_isWayFree 5 (some .boolean) :: ws0) ({ frames := 2, cells := 0, slots := 0, locals := 48 } : Room)).room) s m ([.ref lw, .ref r, .ref u] : List Value).toArray below meth c H locs 0 0 Q9 (F0 m 54 ls []) := by
    intro n9
    induction n9 with
    | zero => intro k H locs ls hm; exact absurd hm (Nat.not_lt_zero _)
    | succ n9 ih_54 =>
      intro k H locs ls hm hk hall hP hD hS hl
      refine lv_iload_n hx hb dX4_isWayFree_54 rfl (lv_at hl 0 rfl) ?_
      refine lv_aload_n hx hb dX4_isWayFree_55 rfl (lv_at hl 3 rfl) ?_
      have hPc := hP.sub (ws' := [(oc6 u (.ref ux) (.ref uy) (nI m2) rh), (oa ux cI cap2 U), (oa uy cI cap2 V)]) [10, 11, 12] rfl
      have hDc := hD.sub (ws' := [(oc6 u (.ref ux) (.ref uy) (nI m2) rh), (oa ux cI cap2 U), (oa uy cI cap2 V)]) [10, 11, 12] (by decide) rfl
      have hFc := va_free (wc := [(oc6 u (.ref ux) (.ref uy) (nI m2) rh), (oa ux cI cap2 U), (oa uy cI cap2 V)]) hD hS hA [10, 11, 12] rfl
      refine zcall (st1 := [.int (nI (prt m2 rh)), .int (nI k)]) (va_runV (As := []) (rest := [.int (nI k)]) ⟨hx, hb, hml, hown, hts⟩ (k_Row_parts l dC dI cI cZ cF H.size u ux uy m2 cap2 U V rh (by omega) (by omega)) (cwV 0 hts (zz_gV mw_700 mw_623 mw_624 mw_102 mc_yX7_parts) rfl rfl rfl (by decide +kernel) ⟨Nat.le_of_ble_eq_true rfl, Nat.le_of_ble_eq_true rfl⟩) (zPV2 (q0 := 0) (ci := 6) hPc hDc hK hXN rfl rfl) rfl rfl hl.1 rfl (lv_room (Nat.le_of_ble_eq_true rfl)) dX4_isWayFree_56 ⟨Nat.le_of_ble_eq_true rfl, Nat.le_of_ble_eq_true rfl⟩) hS hFc hFc rfl (fun t H1 locs ht hB hk1 hS => ?_)
      obtain ⟨hP1, hD1⟩ := hB
      rw [ht] at hP1
      obtain ⟨hP, hD⟩ := va_join (wr := [(oc3 lw (.ref dr) (.ref tg) (.ref wy) (.ref br) (.ref bo) (.ref aa)), (oc6 wy (.ref wx) (.ref wz) (nI (2)) 0), (oa wx cI 2 (upd (upd WX 0 (X 0)) 1 (P 0))), (oa wz cI 2 (upd (upd WY 0 (Y 0)) 1 (Q 0))), (oc6 dr (.ref dx) (.ref dy) (nI nd) rd), (oa dx cI cd P), (oa dy cI cd Q), (oc6 r (.ref rx) (.ref ry) (nI n) rg), (oa rx cI cap X), (oa ry cI cap Y)]) (w1 := [(oc6 u (.ref ux) (.ref uy) (nI m2) rh), (oa ux cI cap2 U), (oa uy cI cap2 V)]) hP hD [10, 11, 12] [0, 1, 2, 3, 4, 5, 6, 7, 8, 9] rfl rfl (by decide) (by decide) hk1 hFc hP1 hD1
      clear hk1 hPc hDc hFc hP1 hD1 ht
      generalize H1 = H at hP hS ⊢
      have hP : va_P (dC, dI) classes [(oc3 lw (.ref dr) (.ref tg) (.ref wy) (.ref br) (.ref bo) (.ref aa)), (oc6 wy (.ref wx) (.ref wz) (nI (2)) 0), (oa wx cI 2 (upd (upd WX 0 (X 0)) 1 (P 0))), (oa wz cI 2 (upd (upd WY 0 (Y 0)) 1 (Q 0))), (oc6 dr (.ref dx) (.ref dy) (nI nd) rd), (oa dx cI cd P), (oa dy cI cd Q), (oc6 r (.ref rx) (.ref ry) (nI n) rg), (oa rx cI cap X), (oa ry cI cap Y), (oc6 u (.ref ux) (.ref uy) (nI m2) rh), (oa ux cI cap2 U), (oa uy cI cap2 V)] H := hP
      have hD : va_D A [(oc3 lw (.ref dr) (.ref tg) (.ref wy) (.ref br) (.ref bo) (.ref aa)), (oc6 wy (.ref wx) (.ref wz) (nI (2)) 0), (oa wx cI 2 (upd (upd WX 0 (X 0)) 1 (P 0))), (oa wz cI 2 (upd (upd WY 0 (Y 0)) 1 (Q 0))), (oc6 dr (.ref dx) (.ref dy) (nI nd) rd), (oa dx cI cd P), (oa dy cI cd Q), (oc6 r (.ref rx) (.ref ry) (nI n) rg), (oa rx cI cap X), (oa ry cI cap Y), (oc6 u (.ref ux) (.ref uy) (nI m2) rh), (oa ux cI cap2 U), (oa uy cI cap2 V)] := hD
      refine lv_icmp_ge (tgt := 153) hx hb dX4_isWayFree_59 (by decide) (fun c_1 => ?_) (fun c_1 => ?_)
      · have c_1 : ((prt m2 rh : Nat) : Int) ≤ ((k : Nat) : Int) := zc_le (nI_toInt (by omega)) (nI_toInt (by omega)) c_1
        refine lv_iconst (v := 1) hx hb dX4_isWayFree_153 (by decide) ?_
        have hP9 := hP.sub (ws' := [(oc3 lw (.ref dr) (.ref tg) (.ref wy) (.ref br) (.ref bo) (.ref aa)), (oc6 wy (.ref wx) (.ref wz) (nI (2)) 0), (oa wx cI 2 (upd (upd WX 0 (X 0)) 1 (P 0))), (oa wz cI 2 (upd (upd WY 0 (Y 0)) 1 (Q 0))), (oc6 dr (.ref dx) (.ref dy) (nI nd) rd), (oa dx cI cd P), (oa dy cI cd Q), (oc6 r (.ref rx) (.ref ry) (nI n) rg), (oa rx cI cap X), (oa ry cI cap Y), (oc6 u (.ref ux) (.ref uy) (nI m2) rh), (oa ux cI cap2 U), (oa uy cI cap2 V)]) [0, 1, 2, 3, 4, 5, 6, 7, 8, 9, 10, 11, 12] rfl
        have hD9 := hD.sub (ws' := [(oc3 lw (.ref dr) (.ref tg) (.ref wy) (.ref br) (.ref bo) (.ref aa)), (oc6 wy (.ref wx) (.ref wz) (nI (2)) 0), (oa wx cI 2 (upd (upd WX 0 (X 0)) 1 (P 0))), (oa wz cI 2 (upd (upd WY 0 (Y 0)) 1 (Q 0))), (oc6 dr (.ref dx) (.ref dy) (nI nd) rd), (oa dx cI cd P), (oa dy cI cd Q), (oc6 r (.ref rx) (.ref ry) (nI n) rg), (oa rx cI cap X), (oa ry cI cap Y), (oc6 u (.ref ux) (.ref uy) (nI m2) rh), (oa ux cI cap2 U), (oa uy cI cap2 V)]) [0, 1, 2, 3, 4, 5, 6, 7, 8, 9, 10, 11, 12] (by decide) rfl
        rw [hQ9]
        exact W.zret (ty := .boolean) (v := 1) hx hb hr (rfl) (fun t ht hW => ⟨⟨congrArg (fun z => Outcome.returned (some (Value.int z))) (show (1 : Int32) = pI (∀ k, k < prt m2 rh → wyF2 (X 0).toInt (Y 0).toInt (P 0).toInt (Q 0).toInt m2 U V k) from (zp_t (fun j hj => hall j (by omega))).symm), by rw [ht]; exact hP9, hD9⟩, hS.F ht⟩) hS.2.2 dX4_isWayFree_154
      · have c_1 : ((k : Nat) : Int) < ((prt m2 rh : Nat) : Int) := zc_nle (nI_toInt (by omega)) (nI_toInt (by omega)) c_1
        have hkm : k < m2 := (by omega)
        have hnk := nxt_lt (n := m2) (i := k) (by omega)
        refine lv_aload_n hx hb dX4_isWayFree_62 rfl (lv_at hl 1 rfl) ?_
        refine va_get (D := (dC, dI)) (ci := 3) (v := .ref wy) (C := RX4) (T := TX4) (N := 6) hx hb hts inX4 hown hK hP 0 rfl rfl 2 (by decide) (hts _ mw_222) (fun _ h9 => h9) rfl dX4_isWayFree_63 ?_
        refine lv_iconst (v := 0) hx hb dX4_isWayFree_66 (by decide) ?_
        refine lv_aload_n hx hb dX4_isWayFree_67 rfl (lv_at hl 3 rfl) ?_
        refine lv_iload_n hx hb dX4_isWayFree_68 rfl (lv_at hl 0 rfl) ?_
        have hPc := hP.sub (ws' := [(oc6 wy (.ref wx) (.ref wz) (nI (2)) 0), (oa wx cI 2 (upd (upd WX 0 (X 0)) 1 (P 0))), (oa wz cI 2 (upd (upd WY 0 (Y 0)) 1 (Q 0))), (oc6 u (.ref ux) (.ref uy) (nI m2) rh), (oa ux cI cap2 U), (oa uy cI cap2 V)]) [1, 2, 3, 10, 11, 12] rfl
        have hDc := hD.sub (ws' := [(oc6 wy (.ref wx) (.ref wz) (nI (2)) 0), (oa wx cI 2 (upd (upd WX 0 (X 0)) 1 (P 0))), (oa wz cI 2 (upd (upd WY 0 (Y 0)) 1 (Q 0))), (oc6 u (.ref ux) (.ref uy) (nI m2) rh), (oa ux cI cap2 U), (oa uy cI cap2 V)]) [1, 2, 3, 10, 11, 12] (by decide) rfl
        have hFc := va_free (wc := [(oc6 wy (.ref wx) (.ref wz) (nI (2)) 0), (oa wx cI 2 (upd (upd WX 0 (X 0)) 1 (P 0))), (oa wz cI 2 (upd (upd WY 0 (Y 0)) 1 (Q 0))), (oc6 u (.ref ux) (.ref uy) (nI m2) rh), (oa ux cI cap2 U), (oa uy cI cap2 V)]) hD hS hA [1, 2, 3, 10, 11, 12] rfl
        refine zcall (st1 := [.int (pI (eMt 2 (upd (upd WX 0 (X 0)) 1 (P 0)) (upd (upd WY 0 (Y 0)) 1 (Q 0)) 0 m2 U V k))]) (va_runV (As := [.int 0, .ref u, .int (nI k)]) (rest := []) ⟨hx, hb, hml, hown, hts⟩ (k_Row_partsMeet l dC dI cI cZ cF H.size wy wx wz 2 2 (upd (upd WX 0 (X 0)) 1 (P 0)) (upd (upd WY 0 (Y 0)) 1 (Q 0)) 0 u ux uy m2 cap2 U V rh 0 k (by omega) (by omega) (hpw) (by omega) (by omega) (by assumption) (by omega) (by omega)) (cwV 3 hts (zz_gV mw_701 mw_549 mw_550 mw_102 mc_yX7_partsMeet) rfl rfl rfl (by decide +kernel) ⟨Nat.le_of_ble_eq_true rfl, Nat.le_of_ble_eq_true rfl⟩) (zPV2 (q0 := 0) (ci := 6) hPc hDc hK hXN rfl rfl) rfl rfl hl.1 rfl (lv_room (Nat.le_of_ble_eq_true rfl)) dX4_isWayFree_69 ⟨Nat.le_of_ble_eq_true rfl, Nat.le_of_ble_eq_true rfl⟩) hS hFc hFc rfl (fun t H1 locs ht hB hk1 hS => ?_)
        obtain ⟨hP1, hD1⟩ := hB
        rw [ht] at hP1
        obtain ⟨hP, hD⟩ := va_join (wr := [(oc3 lw (.ref dr) (.ref tg) (.ref wy) (.ref br) (.ref bo) (.ref aa)), (oc6 dr (.ref dx) (.ref dy) (nI nd) rd), (oa dx cI cd P), (oa dy cI cd Q), (oc6 r (.ref rx) (.ref ry) (nI n) rg), (oa rx cI cap X), (oa ry cI cap Y)]) (w1 := [(oc6 wy (.ref wx) (.ref wz) (nI 2) 0), (oa wx cI 2 (upd (upd WX 0 (X 0)) 1 (P 0))), (oa wz cI 2 (upd (upd WY 0 (Y 0)) 1 (Q 0))), (oc6 u (.ref ux) (.ref uy) (nI m2) rh), (oa ux cI cap2 U), (oa uy cI cap2 V)]) hP hD [1, 2, 3, 10, 11, 12] [0, 4, 5, 6, 7, 8, 9] rfl rfl (by decide) (by decide) hk1 hFc hP1 hD1
        clear hk1 hPc hDc hFc hP1 hD1 ht
        generalize H1 = H at hP hS ⊢
        have hP := hP.sub (ws' := [(oc3 lw (.ref dr) (.ref tg) (.ref wy) (.ref br) (.ref bo) (.ref aa)), (oc6 wy (.ref wx) (.ref wz) (nI 2) 0), (oa wx cI 2 (upd (upd WX 0 (X 0)) 1 (P 0))), (oa wz cI 2 (upd (upd WY 0 (Y 0)) 1 (Q 0))), (oc6 dr (.ref dx) (.ref dy) (nI nd) rd), (oa dx cI cd P), (oa dy cI cd Q), (oc6 r (.ref rx) (.ref ry) (nI n) rg), (oa rx cI cap X), (oa ry cI cap Y), (oc6 u (.ref ux) (.ref uy) (nI m2) rh), (oa ux cI cap2 U), (oa uy cI cap2 V)]) [0, 7, 8, 9, 1, 2, 3, 4, 5, 6, 10, 11, 12] rfl
        have hD := hD.sub (ws' := [(oc3 lw (.ref dr) (.ref tg) (.ref wy) (.ref br) (.ref bo) (.ref aa)), (oc6 wy (.ref wx) (.ref wz) (nI 2) 0), (oa wx cI 2 (upd (upd WX 0 (X 0)) 1 (P 0))), (oa wz cI 2 (upd (upd WY 0 (Y 0)) 1 (Q 0))), (oc6 dr (.ref dx) (.ref dy) (nI nd) rd), (oa dx cI cd P), (oa dy cI cd Q), (oc6 r (.ref rx) (.ref ry) (nI n) rg), (oa rx cI cap X), (oa ry cI cap Y), (oc6 u (.ref ux) (.ref uy) (nI m2) rh), (oa ux cI cap2 U), (oa uy cI cap2 V)]) [0, 7, 8, 9, 1, 2, 3, 4, 5, 6, 10, 11, 12] (by decide) rfl
        have hP : va_P (dC, dI) classes [(oc3 lw (.ref dr) (.ref tg) (.ref wy) (.ref br) (.ref bo) (.ref aa)), (oc6 wy (.ref wx) (.ref wz) (nI 2) 0), (oa wx cI 2 (upd (upd WX 0 (X 0)) 1 (P 0))), (oa wz cI 2 (upd (upd WY 0 (Y 0)) 1 (Q 0))), (oc6 dr (.ref dx) (.ref dy) (nI nd) rd), (oa dx cI cd P), (oa dy cI cd Q), (oc6 r (.ref rx) (.ref ry) (nI n) rg), (oa rx cI cap X), (oa ry cI cap Y), (oc6 u (.ref ux) (.ref uy) (nI m2) rh), (oa ux cI cap2 U), (oa uy cI cap2 V)] H := hP
        have hD : va_D A [(oc3 lw (.ref dr) (.ref tg) (.ref wy) (.ref br) (.ref bo) (.ref aa)), (oc6 wy (.ref wx) (.ref wz) (nI 2) 0), (oa wx cI 2 (upd (upd WX 0 (X 0)) 1 (P 0))), (oa wz cI 2 (upd (upd WY 0 (Y 0)) 1 (Q 0))), (oc6 dr (.ref dx) (.ref dy) (nI nd) rd), (oa dx cI cd P), (oa dy cI cd Q), (oc6 r (.ref rx) (.ref ry) (nI n) rg), (oa rx cI cap X), (oa ry cI cap Y), (oc6 u (.ref ux) (.ref uy) (nI m2) rh), (oa ux cI cap2 U), (oa uy cI cap2 V)] := hD
        refine zz_i (v := pI (mtC (X 0).toInt (Y 0).toInt (P 0).toInt (Q 0).toInt (U k).toInt (V k).toInt (U (nxt m2 k)).toInt (V (nxt m2 k)).toInt)) (rfl) ?_
        refine lv_if_ne (tgt := 78) hx hb dX4_isWayFree_72 (by decide) (fun c_2 => ?_) (fun c_2 => ?_)
        · have c_2 : mtC (X 0).toInt (Y 0).toInt (P 0).toInt (Q 0).toInt (U k).toInt (V k).toInt (U (nxt m2 k)).toInt (V (nxt m2 k)).toInt := zp_1 c_2
          refine lv_aload_n hx hb dX4_isWayFree_78 rfl (lv_at hl 3 rfl) ?_
          refine lv_iload_n hx hb dX4_isWayFree_79 rfl (lv_at hl 0 rfl) ?_
          have hPc := hP.sub (ws' := [(oc6 u (.ref ux) (.ref uy) (nI m2) rh), (oa ux cI cap2 U), (oa uy cI cap2 V)]) [10, 11, 12] rfl
          have hDc := hD.sub (ws' := [(oc6 u (.ref ux) (.ref uy) (nI m2) rh), (oa ux cI cap2 U), (oa uy cI cap2 V)]) [10, 11, 12] (by decide) rfl
          have hFc := va_free (wc := [(oc6 u (.ref ux) (.ref uy) (nI m2) rh), (oa ux cI cap2 U), (oa uy cI cap2 V)]) hD hS hA [10, 11, 12] rfl
          refine zcall (st1 := [.int (nI (nxt m2 k))]) (va_runV (As := [.int (nI k)]) (rest := []) ⟨hx, hb, hml, hown, hts⟩ (k_Row_next l dC dI cI cZ cF H.size u ux uy m2 cap2 U V rh k (by omega) (by omega) (by omega)) (cwV 1 hts (zz_gV mw_654 mw_537 mw_538 mw_102 mc_yX7_next) rfl rfl rfl (by decide +kernel) ⟨Nat.le_of_ble_eq_true rfl, Nat.le_of_ble_eq_true rfl⟩) (zPV2 (q0 := 0) (ci := 6) hPc hDc hK hXN rfl rfl) rfl rfl hl.1 rfl (lv_room (Nat.le_of_ble_eq_true rfl)) dX4_isWayFree_80 ⟨Nat.le_of_ble_eq_true rfl, Nat.le_of_ble_eq_true rfl⟩) hS hFc hFc rfl (fun t H1 locs ht hB hk1 hS => ?_)
          obtain ⟨hP1, hD1⟩ := hB
          rw [ht] at hP1
          obtain ⟨hP, hD⟩ := va_join (wr := [(oc3 lw (.ref dr) (.ref tg) (.ref wy) (.ref br) (.ref bo) (.ref aa)), (oc6 wy (.ref wx) (.ref wz) (nI 2) 0), (oa wx cI 2 (upd (upd WX 0 (X 0)) 1 (P 0))), (oa wz cI 2 (upd (upd WY 0 (Y 0)) 1 (Q 0))), (oc6 dr (.ref dx) (.ref dy) (nI nd) rd), (oa dx cI cd P), (oa dy cI cd Q), (oc6 r (.ref rx) (.ref ry) (nI n) rg), (oa rx cI cap X), (oa ry cI cap Y)]) (w1 := [(oc6 u (.ref ux) (.ref uy) (nI m2) rh), (oa ux cI cap2 U), (oa uy cI cap2 V)]) hP hD [10, 11, 12] [0, 1, 2, 3, 4, 5, 6, 7, 8, 9] rfl rfl (by decide) (by decide) hk1 hFc hP1 hD1
          clear hk1 hPc hDc hFc hP1 hD1 ht
          generalize H1 = H at hP hS ⊢
          have hP : va_P (dC, dI) classes [(oc3 lw (.ref dr) (.ref tg) (.ref wy) (.ref br) (.ref bo) (.ref aa)), (oc6 wy (.ref wx) (.ref wz) (nI 2) 0), (oa wx cI 2 (upd (upd WX 0 (X 0)) 1 (P 0))), (oa wz cI 2 (upd (upd WY 0 (Y 0)) 1 (Q 0))), (oc6 dr (.ref dx) (.ref dy) (nI nd) rd), (oa dx cI cd P), (oa dy cI cd Q), (oc6 r (.ref rx) (.ref ry) (nI n) rg), (oa rx cI cap X), (oa ry cI cap Y), (oc6 u (.ref ux) (.ref uy) (nI m2) rh), (oa ux cI cap2 U), (oa uy cI cap2 V)] H := hP
          have hD : va_D A [(oc3 lw (.ref dr) (.ref tg) (.ref wy) (.ref br) (.ref bo) (.ref aa)), (oc6 wy (.ref wx) (.ref wz) (nI 2) 0), (oa wx cI 2 (upd (upd WX 0 (X 0)) 1 (P 0))), (oa wz cI 2 (upd (upd WY 0 (Y 0)) 1 (Q 0))), (oc6 dr (.ref dx) (.ref dy) (nI nd) rd), (oa dx cI cd P), (oa dy cI cd Q), (oc6 r (.ref rx) (.ref ry) (nI n) rg), (oa rx cI cap X), (oa ry cI cap Y), (oc6 u (.ref ux) (.ref uy) (nI m2) rh), (oa ux cI cap2 U), (oa uy cI cap2 V)] := hD
          refine lv_istore (lv' := [(4, .int (nI (nxt m2 k))), (3, .int (nI k)), (0, .ref lw), (1, .ref r), (2, .ref u)]) hx hb dX4_isWayFree_83 hl (by decide) rfl (fun ls hl => ?_)
          refine lv_aload_n hx hb dX4_isWayFree_85 rfl (lv_at hl 4 rfl) ?_
          refine lv_iload_n hx hb dX4_isWayFree_86 rfl (lv_at hl 1 rfl) ?_
          refine lv_aload_n hx hb dX4_isWayFree_87 rfl (lv_at hl 3 rfl) ?_
          refine va_get (D := (dC, dI)) (ci := 6) (v := .ref rx) (C := RX7) (T := TX7) (N := 4) hx hb hts inX7 hown hK hP 7 rfl rfl 0 (by decide) (hts _ mw_163) (fun _ h9 => h9) rfl dX4_isWayFree_88 ?_
          refine lv_iconst (v := 0) hx hb dX4_isWayFree_91 (by decide) ?_
          refine z_iald hx hb hK hP 8 0 rfl rfl (e := 0) rfl (by omega) (by omega) dX4_isWayFree_92 ?_
          refine lv_aload_n hx hb dX4_isWayFree_93 rfl (lv_at hl 3 rfl) ?_
          refine va_get (D := (dC, dI)) (ci := 6) (v := .ref ry) (C := RX7) (T := TX7) (N := 4) hx hb hts inX7 hown hK hP 7 rfl rfl 1 (by decide) (hts _ mw_170) (fun _ h9 => h9) rfl dX4_isWayFree_94 ?_
          refine lv_iconst (v := 0) hx hb dX4_isWayFree_97 (by decide) ?_
          refine z_iald hx hb hK hP 9 0 rfl rfl (e := 0) rfl (by omega) (by omega) dX4_isWayFree_98 ?_
          have hPc := hP.sub (ws' := [(oc6 u (.ref ux) (.ref uy) (nI m2) rh), (oa ux cI cap2 U), (oa uy cI cap2 V)]) [10, 11, 12] rfl
          have hDc := hD.sub (ws' := [(oc6 u (.ref ux) (.ref uy) (nI m2) rh), (oa ux cI cap2 U), (oa uy cI cap2 V)]) [10, 11, 12] (by decide) rfl
          have hFc := va_free (wc := [(oc6 u (.ref ux) (.ref uy) (nI m2) rh), (oa ux cI cap2 U), (oa uy cI cap2 V)]) hD hS hA [10, 11, 12] rfl
          refine zcall (st1 := [.int (pI (eOn m2 U V k (X 0).toInt (Y 0).toInt))]) (va_runV (As := [.int (nI k), .int (X 0), .int (Y 0)]) (rest := []) ⟨hx, hb, hml, hown, hts⟩ (k_Row_isOn l dC dI cI cZ cF H.size u ux uy m2 cap2 U V rh k (X 0) (Y 0) (by omega) (by omega) (hq) (by omega) (h0x.1) (h0x.2)) (cwV 3 hts (zz_gV mw_702 mw_627 mw_628 mw_102 mc_yX7_isOn) rfl rfl rfl (by decide +kernel) ⟨Nat.le_of_ble_eq_true rfl, Nat.le_of_ble_eq_true rfl⟩) (zPV2 (q0 := 0) (ci := 6) hPc hDc hK hXN rfl rfl) rfl rfl hl.1 rfl (lv_room (Nat.le_of_ble_eq_true rfl)) dX4_isWayFree_99 ⟨Nat.le_of_ble_eq_true rfl, Nat.le_of_ble_eq_true rfl⟩) hS hFc hFc rfl (fun t H1 locs ht hB hk1 hS => ?_)
          obtain ⟨hP1, hD1⟩ := hB
          rw [ht] at hP1
          obtain ⟨hP, hD⟩ := va_join (wr := [(oc3 lw (.ref dr) (.ref tg) (.ref wy) (.ref br) (.ref bo) (.ref aa)), (oc6 wy (.ref wx) (.ref wz) (nI 2) 0), (oa wx cI 2 (upd (upd WX 0 (X 0)) 1 (P 0))), (oa wz cI 2 (upd (upd WY 0 (Y 0)) 1 (Q 0))), (oc6 dr (.ref dx) (.ref dy) (nI nd) rd), (oa dx cI cd P), (oa dy cI cd Q), (oc6 r (.ref rx) (.ref ry) (nI n) rg), (oa rx cI cap X), (oa ry cI cap Y)]) (w1 := [(oc6 u (.ref ux) (.ref uy) (nI m2) rh), (oa ux cI cap2 U), (oa uy cI cap2 V)]) hP hD [10, 11, 12] [0, 1, 2, 3, 4, 5, 6, 7, 8, 9] rfl rfl (by decide) (by decide) hk1 hFc hP1 hD1
          clear hk1 hPc hDc hFc hP1 hD1 ht
          generalize H1 = H at hP hS ⊢
          have hP : va_P (dC, dI) classes [(oc3 lw (.ref dr) (.ref tg) (.ref wy) (.ref br) (.ref bo) (.ref aa)), (oc6 wy (.ref wx) (.ref wz) (nI 2) 0), (oa wx cI 2 (upd (upd WX 0 (X 0)) 1 (P 0))), (oa wz cI 2 (upd (upd WY 0 (Y 0)) 1 (Q 0))), (oc6 dr (.ref dx) (.ref dy) (nI nd) rd), (oa dx cI cd P), (oa dy cI cd Q), (oc6 r (.ref rx) (.ref ry) (nI n) rg), (oa rx cI cap X), (oa ry cI cap Y), (oc6 u (.ref ux) (.ref uy) (nI m2) rh), (oa ux cI cap2 U), (oa uy cI cap2 V)] H := hP
          have hD : va_D A [(oc3 lw (.ref dr) (.ref tg) (.ref wy) (.ref br) (.ref bo) (.ref aa)), (oc6 wy (.ref wx) (.ref wz) (nI 2) 0), (oa wx cI 2 (upd (upd WX 0 (X 0)) 1 (P 0))), (oa wz cI 2 (upd (upd WY 0 (Y 0)) 1 (Q 0))), (oc6 dr (.ref dx) (.ref dy) (nI nd) rd), (oa dx cI cd P), (oa dy cI cd Q), (oc6 r (.ref rx) (.ref ry) (nI n) rg), (oa rx cI cap X), (oa ry cI cap Y), (oc6 u (.ref ux) (.ref uy) (nI m2) rh), (oa ux cI cap2 U), (oa uy cI cap2 V)] := hD
          refine zz_i (v := pI (onS (U k).toInt (V k).toInt (U (nxt m2 k)).toInt (V (nxt m2 k)).toInt (X 0).toInt (Y 0).toInt)) (rfl) ?_
          refine lv_if_eq (tgt := 145) hx hb dX4_isWayFree_102 (by decide) (fun c_3 => ?_) (fun c_3 => ?_)
          · have c_3 : ¬ (onS (U k).toInt (V k).toInt (U (nxt m2 k)).toInt (V (nxt m2 k)).toInt (X 0).toInt (Y 0).toInt) := zp_0 c_3
            refine lv_iconst (v := 0) hx hb dX4_isWayFree_145 (by decide) ?_
            have hP9 := hP.sub (ws' := [(oc3 lw (.ref dr) (.ref tg) (.ref wy) (.ref br) (.ref bo) (.ref aa)), (oc6 wy (.ref wx) (.ref wz) (nI 2) 0), (oa wx cI 2 (upd (upd WX 0 (X 0)) 1 (P 0))), (oa wz cI 2 (upd (upd WY 0 (Y 0)) 1 (Q 0))), (oc6 dr (.ref dx) (.ref dy) (nI nd) rd), (oa dx cI cd P), (oa dy cI cd Q), (oc6 r (.ref rx) (.ref ry) (nI n) rg), (oa rx cI cap X), (oa ry cI cap Y), (oc6 u (.ref ux) (.ref uy) (nI m2) rh), (oa ux cI cap2 U), (oa uy cI cap2 V)]) [0, 1, 2, 3, 4, 5, 6, 7, 8, 9, 10, 11, 12] rfl
            have hD9 := hD.sub (ws' := [(oc3 lw (.ref dr) (.ref tg) (.ref wy) (.ref br) (.ref bo) (.ref aa)), (oc6 wy (.ref wx) (.ref wz) (nI 2) 0), (oa wx cI 2 (upd (upd WX 0 (X 0)) 1 (P 0))), (oa wz cI 2 (upd (upd WY 0 (Y 0)) 1 (Q 0))), (oc6 dr (.ref dx) (.ref dy) (nI nd) rd), (oa dx cI cd P), (oa dy cI cd Q), (oc6 r (.ref rx) (.ref ry) (nI n) rg), (oa rx cI cap X), (oa ry cI cap Y), (oc6 u (.ref ux) (.ref uy) (nI m2) rh), (oa ux cI cap2 U), (oa uy cI cap2 V)]) [0, 1, 2, 3, 4, 5, 6, 7, 8, 9, 10, 11, 12] (by decide) rfl
            rw [hQ9]
            exact W.zret (ty := .boolean) (v := 0) hx hb hr (rfl) (fun t ht hW => ⟨⟨congrArg (fun z => Outcome.returned (some (Value.int z))) (show (0 : Int32) = pI (∀ k, k < prt m2 rh → wyF2 (X 0).toInt (Y 0).toInt (P 0).toInt (Q 0).toInt m2 U V k) from (zp_f (fun h => by have h9 := h k (by omega) (by assumption); first | exact absurd h9.1 (by assumption) | exact absurd (by assumption) h9.2.1 | exact absurd (by assumption) h9.2.2)).symm), by rw [ht]; exact hP9, hD9⟩, hS.F ht⟩) hS.2.2 dX4_isWayFree_146
          · have c_3 : onS (U k).toInt (V k).toInt (U (nxt m2 k)).toInt (V (nxt m2 k)).toInt (X 0).toInt (Y 0).toInt := zp_1 c_3
            refine lv_aload_n hx hb dX4_isWayFree_105 rfl (lv_at hl 2 rfl) ?_
            refine lv_aload_n hx hb dX4_isWayFree_106 rfl (lv_at hl 4 rfl) ?_
            refine va_get (D := (dC, dI)) (ci := 6) (v := .ref ux) (C := RX7) (T := TX7) (N := 4) hx hb hts inX7 hown hK hP 10 rfl rfl 0 (by decide) (hts _ mw_163) (fun _ h9 => h9) rfl dX4_isWayFree_107 ?_
            refine lv_iload_n hx hb dX4_isWayFree_110 rfl (lv_at hl 1 rfl) ?_
            refine z_iald hx hb hK hP 11 0 rfl rfl (e := k) rfl (by omega) (by omega) dX4_isWayFree_111 ?_
            refine lv_aload_n hx hb dX4_isWayFree_112 rfl (lv_at hl 4 rfl) ?_
            refine va_get (D := (dC, dI)) (ci := 6) (v := .ref uy) (C := RX7) (T := TX7) (N := 4) hx hb hts inX7 hown hK hP 10 rfl rfl 1 (by decide) (hts _ mw_170) (fun _ h9 => h9) rfl dX4_isWayFree_113 ?_
            refine lv_iload_n hx hb dX4_isWayFree_116 rfl (lv_at hl 1 rfl) ?_
            refine z_iald hx hb hK hP 12 0 rfl rfl (e := k) rfl (by omega) (by omega) dX4_isWayFree_117 ?_
            have hPc := hP.sub (ws' := [(oc3 lw (.ref dr) (.ref tg) (.ref wy) (.ref br) (.ref bo) (.ref aa)), (oc6 wy (.ref wx) (.ref wz) (nI 2) 0), (oa wx cI 2 (upd (upd WX 0 (X 0)) 1 (P 0))), (oa wz cI 2 (upd (upd WY 0 (Y 0)) 1 (Q 0)))]) [0, 1, 2, 3] rfl
            have hDc := hD.sub (ws' := [(oc3 lw (.ref dr) (.ref tg) (.ref wy) (.ref br) (.ref bo) (.ref aa)), (oc6 wy (.ref wx) (.ref wz) (nI 2) 0), (oa wx cI 2 (upd (upd WX 0 (X 0)) 1 (P 0))), (oa wz cI 2 (upd (upd WY 0 (Y 0)) 1 (Q 0)))]) [0, 1, 2, 3] (by decide) rfl
            have hFc := va_free (wc := [(oc3 lw (.ref dr) (.ref tg) (.ref wy) (.ref br) (.ref bo) (.ref aa)), (oc6 wy (.ref wx) (.ref wz) (nI 2) 0), (oa wx cI 2 (upd (upd WX 0 (X 0)) 1 (P 0))), (oa wz cI 2 (upd (upd WY 0 (Y 0)) 1 (Q 0)))]) hD hS hA [0, 1, 2, 3] rfl
            refine zcall (st1 := [.int (pI (ldT ((upd (upd WX 0 (X 0)) 1 (P 0)) 0).toInt ((upd (upd WY 0 (Y 0)) 1 (Q 0)) 0).toInt ((upd (upd WX 0 (X 0)) 1 (P 0)) 1).toInt ((upd (upd WY 0 (Y 0)) 1 (Q 0)) 1).toInt (U k).toInt (V k).toInt))]) (va_runV (As := [.int (U k), .int (V k)]) (rest := []) ⟨hx, hb, hml, hown, hts⟩ (k_Law_leadsTo l dC dI cI cZ cF H.size lw dr tg wy br bo aa wx wz (upd (upd WX 0 (X 0)) 1 (P 0)) (upd (upd WY 0 (Y 0)) 1 (Q 0)) 0 (U k) (V k) (hpw) ((hq k hkm).1) ((hq k hkm).2)) (cwV 2 hts (zz_gV mw_703 mw_705 mw_14 mw_101 mc_yX4_leadsTo) rfl rfl rfl (by decide +kernel) ⟨Nat.le_of_ble_eq_true rfl, Nat.le_of_ble_eq_true rfl⟩) (zPV2 (q0 := 0) (ci := 3) hPc hDc hK hXN rfl rfl) rfl rfl hl.1 rfl (lv_room (Nat.le_of_ble_eq_true rfl)) dX4_isWayFree_118 ⟨Nat.le_of_ble_eq_true rfl, Nat.le_of_ble_eq_true rfl⟩) hS hFc hFc rfl (fun t H1 locs ht hB hk1 hS => ?_)
            obtain ⟨hP1, hD1⟩ := hB
            rw [ht] at hP1
            obtain ⟨hP, hD⟩ := va_join (wr := [(oc6 dr (.ref dx) (.ref dy) (nI nd) rd), (oa dx cI cd P), (oa dy cI cd Q), (oc6 r (.ref rx) (.ref ry) (nI n) rg), (oa rx cI cap X), (oa ry cI cap Y), (oc6 u (.ref ux) (.ref uy) (nI m2) rh), (oa ux cI cap2 U), (oa uy cI cap2 V)]) (w1 := [(oc3 lw (.ref dr) (.ref tg) (.ref wy) (.ref br) (.ref bo) (.ref aa)), (oc6 wy (.ref wx) (.ref wz) (nI 2) 0), (oa wx cI 2 (upd (upd WX 0 (X 0)) 1 (P 0))), (oa wz cI 2 (upd (upd WY 0 (Y 0)) 1 (Q 0)))]) hP hD [0, 1, 2, 3] [4, 5, 6, 7, 8, 9, 10, 11, 12] rfl rfl (by decide) (by decide) hk1 hFc hP1 hD1
            clear hk1 hPc hDc hFc hP1 hD1 ht
            generalize H1 = H at hP hS ⊢
            have hP := hP.sub (ws' := [(oc3 lw (.ref dr) (.ref tg) (.ref wy) (.ref br) (.ref bo) (.ref aa)), (oc6 wy (.ref wx) (.ref wz) (nI 2) 0), (oa wx cI 2 (upd (upd WX 0 (X 0)) 1 (P 0))), (oa wz cI 2 (upd (upd WY 0 (Y 0)) 1 (Q 0))), (oc6 dr (.ref dx) (.ref dy) (nI nd) rd), (oa dx cI cd P), (oa dy cI cd Q), (oc6 r (.ref rx) (.ref ry) (nI n) rg), (oa rx cI cap X), (oa ry cI cap Y), (oc6 u (.ref ux) (.ref uy) (nI m2) rh), (oa ux cI cap2 U), (oa uy cI cap2 V)]) [9, 10, 11, 12, 0, 1, 2, 3, 4, 5, 6, 7, 8] rfl
            have hD := hD.sub (ws' := [(oc3 lw (.ref dr) (.ref tg) (.ref wy) (.ref br) (.ref bo) (.ref aa)), (oc6 wy (.ref wx) (.ref wz) (nI 2) 0), (oa wx cI 2 (upd (upd WX 0 (X 0)) 1 (P 0))), (oa wz cI 2 (upd (upd WY 0 (Y 0)) 1 (Q 0))), (oc6 dr (.ref dx) (.ref dy) (nI nd) rd), (oa dx cI cd P), (oa dy cI cd Q), (oc6 r (.ref rx) (.ref ry) (nI n) rg), (oa rx cI cap X), (oa ry cI cap Y), (oc6 u (.ref ux) (.ref uy) (nI m2) rh), (oa ux cI cap2 U), (oa uy cI cap2 V)]) [9, 10, 11, 12, 0, 1, 2, 3, 4, 5, 6, 7, 8] (by decide) rfl
            have hP : va_P (dC, dI) classes [(oc3 lw (.ref dr) (.ref tg) (.ref wy) (.ref br) (.ref bo) (.ref aa)), (oc6 wy (.ref wx) (.ref wz) (nI 2) 0), (oa wx cI 2 (upd (upd WX 0 (X 0)) 1 (P 0))), (oa wz cI 2 (upd (upd WY 0 (Y 0)) 1 (Q 0))), (oc6 dr (.ref dx) (.ref dy) (nI nd) rd), (oa dx cI cd P), (oa dy cI cd Q), (oc6 r (.ref rx) (.ref ry) (nI n) rg), (oa rx cI cap X), (oa ry cI cap Y), (oc6 u (.ref ux) (.ref uy) (nI m2) rh), (oa ux cI cap2 U), (oa uy cI cap2 V)] H := hP
            have hD : va_D A [(oc3 lw (.ref dr) (.ref tg) (.ref wy) (.ref br) (.ref bo) (.ref aa)), (oc6 wy (.ref wx) (.ref wz) (nI 2) 0), (oa wx cI 2 (upd (upd WX 0 (X 0)) 1 (P 0))), (oa wz cI 2 (upd (upd WY 0 (Y 0)) 1 (Q 0))), (oc6 dr (.ref dx) (.ref dy) (nI nd) rd), (oa dx cI cd P), (oa dy cI cd Q), (oc6 r (.ref rx) (.ref ry) (nI n) rg), (oa rx cI cap X), (oa ry cI cap Y), (oc6 u (.ref ux) (.ref uy) (nI m2) rh), (oa ux cI cap2 U), (oa uy cI cap2 V)] := hD
            refine zz_i (v := pI (ldT (X 0).toInt (Y 0).toInt (P 0).toInt (Q 0).toInt (U k).toInt (V k).toInt)) (rfl) ?_
            refine lv_if_ne (tgt := 145) hx hb dX4_isWayFree_121 (by decide) (fun c_4 => ?_) (fun c_4 => ?_)
            · have c_4 : ldT (X 0).toInt (Y 0).toInt (P 0).toInt (Q 0).toInt (U k).toInt (V k).toInt := zp_1 c_4
              refine lv_iconst (v := 0) hx hb dX4_isWayFree_145 (by decide) ?_
              have hP9 := hP.sub (ws' := [(oc3 lw (.ref dr) (.ref tg) (.ref wy) (.ref br) (.ref bo) (.ref aa)), (oc6 wy (.ref wx) (.ref wz) (nI 2) 0), (oa wx cI 2 (upd (upd WX 0 (X 0)) 1 (P 0))), (oa wz cI 2 (upd (upd WY 0 (Y 0)) 1 (Q 0))), (oc6 dr (.ref dx) (.ref dy) (nI nd) rd), (oa dx cI cd P), (oa dy cI cd Q), (oc6 r (.ref rx) (.ref ry) (nI n) rg), (oa rx cI cap X), (oa ry cI cap Y), (oc6 u (.ref ux) (.ref uy) (nI m2) rh), (oa ux cI cap2 U), (oa uy cI cap2 V)]) [0, 1, 2, 3, 4, 5, 6, 7, 8, 9, 10, 11, 12] rfl
              have hD9 := hD.sub (ws' := [(oc3 lw (.ref dr) (.ref tg) (.ref wy) (.ref br) (.ref bo) (.ref aa)), (oc6 wy (.ref wx) (.ref wz) (nI 2) 0), (oa wx cI 2 (upd (upd WX 0 (X 0)) 1 (P 0))), (oa wz cI 2 (upd (upd WY 0 (Y 0)) 1 (Q 0))), (oc6 dr (.ref dx) (.ref dy) (nI nd) rd), (oa dx cI cd P), (oa dy cI cd Q), (oc6 r (.ref rx) (.ref ry) (nI n) rg), (oa rx cI cap X), (oa ry cI cap Y), (oc6 u (.ref ux) (.ref uy) (nI m2) rh), (oa ux cI cap2 U), (oa uy cI cap2 V)]) [0, 1, 2, 3, 4, 5, 6, 7, 8, 9, 10, 11, 12] (by decide) rfl
              rw [hQ9]
              exact W.zret (ty := .boolean) (v := 0) hx hb hr (rfl) (fun t ht hW => ⟨⟨congrArg (fun z => Outcome.returned (some (Value.int z))) (show (0 : Int32) = pI (∀ k, k < prt m2 rh → wyF2 (X 0).toInt (Y 0).toInt (P 0).toInt (Q 0).toInt m2 U V k) from (zp_f (fun h => by have h9 := h k (by omega) (by assumption); first | exact absurd h9.1 (by assumption) | exact absurd (by assumption) h9.2.1 | exact absurd (by assumption) h9.2.2)).symm), by rw [ht]; exact hP9, hD9⟩, hS.F ht⟩) hS.2.2 dX4_isWayFree_146
            · have c_4 : ¬ (ldT (X 0).toInt (Y 0).toInt (P 0).toInt (Q 0).toInt (U k).toInt (V k).toInt) := zp_0 c_4
              refine lv_aload_n hx hb dX4_isWayFree_124 rfl (lv_at hl 2 rfl) ?_
              refine lv_aload_n hx hb dX4_isWayFree_125 rfl (lv_at hl 4 rfl) ?_
              refine va_get (D := (dC, dI)) (ci := 6) (v := .ref ux) (C := RX7) (T := TX7) (N := 4) hx hb hts inX7 hown hK hP 10 rfl rfl 0 (by decide) (hts _ mw_163) (fun _ h9 => h9) rfl dX4_isWayFree_126 ?_
              refine lv_iload hx hb dX4_isWayFree_129 (lv_at hl 0 rfl) ?_
              refine z_iald hx hb hK hP 11 0 rfl rfl (e := nxt m2 k) rfl (by omega) (by omega) dX4_isWayFree_131 ?_
              refine lv_aload_n hx hb dX4_isWayFree_132 rfl (lv_at hl 4 rfl) ?_
              refine va_get (D := (dC, dI)) (ci := 6) (v := .ref uy) (C := RX7) (T := TX7) (N := 4) hx hb hts inX7 hown hK hP 10 rfl rfl 1 (by decide) (hts _ mw_170) (fun _ h9 => h9) rfl dX4_isWayFree_133 ?_
              refine lv_iload hx hb dX4_isWayFree_136 (lv_at hl 0 rfl) ?_
              refine z_iald hx hb hK hP 12 0 rfl rfl (e := nxt m2 k) rfl (by omega) (by omega) dX4_isWayFree_138 ?_
              have hPc := hP.sub (ws' := [(oc3 lw (.ref dr) (.ref tg) (.ref wy) (.ref br) (.ref bo) (.ref aa)), (oc6 wy (.ref wx) (.ref wz) (nI 2) 0), (oa wx cI 2 (upd (upd WX 0 (X 0)) 1 (P 0))), (oa wz cI 2 (upd (upd WY 0 (Y 0)) 1 (Q 0)))]) [0, 1, 2, 3] rfl
              have hDc := hD.sub (ws' := [(oc3 lw (.ref dr) (.ref tg) (.ref wy) (.ref br) (.ref bo) (.ref aa)), (oc6 wy (.ref wx) (.ref wz) (nI 2) 0), (oa wx cI 2 (upd (upd WX 0 (X 0)) 1 (P 0))), (oa wz cI 2 (upd (upd WY 0 (Y 0)) 1 (Q 0)))]) [0, 1, 2, 3] (by decide) rfl
              have hFc := va_free (wc := [(oc3 lw (.ref dr) (.ref tg) (.ref wy) (.ref br) (.ref bo) (.ref aa)), (oc6 wy (.ref wx) (.ref wz) (nI 2) 0), (oa wx cI 2 (upd (upd WX 0 (X 0)) 1 (P 0))), (oa wz cI 2 (upd (upd WY 0 (Y 0)) 1 (Q 0)))]) hD hS hA [0, 1, 2, 3] rfl
              refine zcall (st1 := [.int (pI (ldT ((upd (upd WX 0 (X 0)) 1 (P 0)) 0).toInt ((upd (upd WY 0 (Y 0)) 1 (Q 0)) 0).toInt ((upd (upd WX 0 (X 0)) 1 (P 0)) 1).toInt ((upd (upd WY 0 (Y 0)) 1 (Q 0)) 1).toInt (U (nxt m2 k)).toInt (V (nxt m2 k)).toInt))]) (va_runV (As := [.int (U (nxt m2 k)), .int (V (nxt m2 k))]) (rest := []) ⟨hx, hb, hml, hown, hts⟩ (k_Law_leadsTo l dC dI cI cZ cF H.size lw dr tg wy br bo aa wx wz (upd (upd WX 0 (X 0)) 1 (P 0)) (upd (upd WY 0 (Y 0)) 1 (Q 0)) 0 (U (nxt m2 k)) (V (nxt m2 k)) (hpw) ((hq _ hnk).1) ((hq _ hnk).2)) (cwV 2 hts (zz_gV mw_703 mw_705 mw_14 mw_101 mc_yX4_leadsTo) rfl rfl rfl (by decide +kernel) ⟨Nat.le_of_ble_eq_true rfl, Nat.le_of_ble_eq_true rfl⟩) (zPV2 (q0 := 0) (ci := 3) hPc hDc hK hXN rfl rfl) rfl rfl hl.1 rfl (lv_room (Nat.le_of_ble_eq_true rfl)) dX4_isWayFree_139 ⟨Nat.le_of_ble_eq_true rfl, Nat.le_of_ble_eq_true rfl⟩) hS hFc hFc rfl (fun t H1 locs ht hB hk1 hS => ?_)
              obtain ⟨hP1, hD1⟩ := hB
              rw [ht] at hP1
              obtain ⟨hP, hD⟩ := va_join (wr := [(oc6 dr (.ref dx) (.ref dy) (nI nd) rd), (oa dx cI cd P), (oa dy cI cd Q), (oc6 r (.ref rx) (.ref ry) (nI n) rg), (oa rx cI cap X), (oa ry cI cap Y), (oc6 u (.ref ux) (.ref uy) (nI m2) rh), (oa ux cI cap2 U), (oa uy cI cap2 V)]) (w1 := [(oc3 lw (.ref dr) (.ref tg) (.ref wy) (.ref br) (.ref bo) (.ref aa)), (oc6 wy (.ref wx) (.ref wz) (nI 2) 0), (oa wx cI 2 (upd (upd WX 0 (X 0)) 1 (P 0))), (oa wz cI 2 (upd (upd WY 0 (Y 0)) 1 (Q 0)))]) hP hD [0, 1, 2, 3] [4, 5, 6, 7, 8, 9, 10, 11, 12] rfl rfl (by decide) (by decide) hk1 hFc hP1 hD1
              clear hk1 hPc hDc hFc hP1 hD1 ht
              generalize H1 = H at hP hS ⊢
              have hP := hP.sub (ws' := [(oc3 lw (.ref dr) (.ref tg) (.ref wy) (.ref br) (.ref bo) (.ref aa)), (oc6 wy (.ref wx) (.ref wz) (nI 2) 0), (oa wx cI 2 (upd (upd WX 0 (X 0)) 1 (P 0))), (oa wz cI 2 (upd (upd WY 0 (Y 0)) 1 (Q 0))), (oc6 dr (.ref dx) (.ref dy) (nI nd) rd), (oa dx cI cd P), (oa dy cI cd Q), (oc6 r (.ref rx) (.ref ry) (nI n) rg), (oa rx cI cap X), (oa ry cI cap Y), (oc6 u (.ref ux) (.ref uy) (nI m2) rh), (oa ux cI cap2 U), (oa uy cI cap2 V)]) [9, 10, 11, 12, 0, 1, 2, 3, 4, 5, 6, 7, 8] rfl
              have hD := hD.sub (ws' := [(oc3 lw (.ref dr) (.ref tg) (.ref wy) (.ref br) (.ref bo) (.ref aa)), (oc6 wy (.ref wx) (.ref wz) (nI 2) 0), (oa wx cI 2 (upd (upd WX 0 (X 0)) 1 (P 0))), (oa wz cI 2 (upd (upd WY 0 (Y 0)) 1 (Q 0))), (oc6 dr (.ref dx) (.ref dy) (nI nd) rd), (oa dx cI cd P), (oa dy cI cd Q), (oc6 r (.ref rx) (.ref ry) (nI n) rg), (oa rx cI cap X), (oa ry cI cap Y), (oc6 u (.ref ux) (.ref uy) (nI m2) rh), (oa ux cI cap2 U), (oa uy cI cap2 V)]) [9, 10, 11, 12, 0, 1, 2, 3, 4, 5, 6, 7, 8] (by decide) rfl
              have hP : va_P (dC, dI) classes [(oc3 lw (.ref dr) (.ref tg) (.ref wy) (.ref br) (.ref bo) (.ref aa)), (oc6 wy (.ref wx) (.ref wz) (nI 2) 0), (oa wx cI 2 (upd (upd WX 0 (X 0)) 1 (P 0))), (oa wz cI 2 (upd (upd WY 0 (Y 0)) 1 (Q 0))), (oc6 dr (.ref dx) (.ref dy) (nI nd) rd), (oa dx cI cd P), (oa dy cI cd Q), (oc6 r (.ref rx) (.ref ry) (nI n) rg), (oa rx cI cap X), (oa ry cI cap Y), (oc6 u (.ref ux) (.ref uy) (nI m2) rh), (oa ux cI cap2 U), (oa uy cI cap2 V)] H := hP
              have hD : va_D A [(oc3 lw (.ref dr) (.ref tg) (.ref wy) (.ref br) (.ref bo) (.ref aa)), (oc6 wy (.ref wx) (.ref wz) (nI 2) 0), (oa wx cI 2 (upd (upd WX 0 (X 0)) 1 (P 0))), (oa wz cI 2 (upd (upd WY 0 (Y 0)) 1 (Q 0))), (oc6 dr (.ref dx) (.ref dy) (nI nd) rd), (oa dx cI cd P), (oa dy cI cd Q), (oc6 r (.ref rx) (.ref ry) (nI n) rg), (oa rx cI cap X), (oa ry cI cap Y), (oc6 u (.ref ux) (.ref uy) (nI m2) rh), (oa ux cI cap2 U), (oa uy cI cap2 V)] := hD
              refine zz_i (v := pI (ldT (X 0).toInt (Y 0).toInt (P 0).toInt (Q 0).toInt (U (nxt m2 k)).toInt (V (nxt m2 k)).toInt)) (rfl) ?_
              refine lv_if_eq (tgt := 147) hx hb dX4_isWayFree_142 (by decide) (fun c_5 => ?_) (fun c_5 => ?_)
              · have c_5 : ¬ (ldT (X 0).toInt (Y 0).toInt (P 0).toInt (Q 0).toInt (U (nxt m2 k)).toInt (V (nxt m2 k)).toInt) := zp_0 c_5
                refine lv_iinc (v := nI (k + 1)) (lv' := [(3, .int (nI (k + 1))), (4, .int (nI (nxt m2 k))), (0, .ref lw), (1, .ref r), (2, .ref u)]) hx hb dX4_isWayFree_147 hl (k := 1) rfl (nI_add k 1) (by decide) rfl (fun ls hl => ?_)
                refine lv_goto (tgt := 54) hx hb dX4_isWayFree_150 (by decide) ?_
                exact ih_54 (k + 1) H locs ls (by omega) (by omega) (by intro j hj; rcases Nat.lt_or_ge j k with h | h; exact hall j h; rw [show j = k by omega]; unfold wyF2; first | exact fun h => absurd h (by assumption) | exact fun _ => ⟨by assumption, by assumption, by assumption⟩) hP hD hS (lv_sub hl [0, 2, 3, 4] rfl)
              · have c_5 : ldT (X 0).toInt (Y 0).toInt (P 0).toInt (Q 0).toInt (U (nxt m2 k)).toInt (V (nxt m2 k)).toInt := zp_1 c_5
                refine lv_iconst (v := 0) hx hb dX4_isWayFree_145 (by decide) ?_
                have hP9 := hP.sub (ws' := [(oc3 lw (.ref dr) (.ref tg) (.ref wy) (.ref br) (.ref bo) (.ref aa)), (oc6 wy (.ref wx) (.ref wz) (nI 2) 0), (oa wx cI 2 (upd (upd WX 0 (X 0)) 1 (P 0))), (oa wz cI 2 (upd (upd WY 0 (Y 0)) 1 (Q 0))), (oc6 dr (.ref dx) (.ref dy) (nI nd) rd), (oa dx cI cd P), (oa dy cI cd Q), (oc6 r (.ref rx) (.ref ry) (nI n) rg), (oa rx cI cap X), (oa ry cI cap Y), (oc6 u (.ref ux) (.ref uy) (nI m2) rh), (oa ux cI cap2 U), (oa uy cI cap2 V)]) [0, 1, 2, 3, 4, 5, 6, 7, 8, 9, 10, 11, 12] rfl
                have hD9 := hD.sub (ws' := [(oc3 lw (.ref dr) (.ref tg) (.ref wy) (.ref br) (.ref bo) (.ref aa)), (oc6 wy (.ref wx) (.ref wz) (nI 2) 0), (oa wx cI 2 (upd (upd WX 0 (X 0)) 1 (P 0))), (oa wz cI 2 (upd (upd WY 0 (Y 0)) 1 (Q 0))), (oc6 dr (.ref dx) (.ref dy) (nI nd) rd), (oa dx cI cd P), (oa dy cI cd Q), (oc6 r (.ref rx) (.ref ry) (nI n) rg), (oa rx cI cap X), (oa ry cI cap Y), (oc6 u (.ref ux) (.ref uy) (nI m2) rh), (oa ux cI cap2 U), (oa uy cI cap2 V)]) [0, 1, 2, 3, 4, 5, 6, 7, 8, 9, 10, 11, 12] (by decide) rfl
                rw [hQ9]
                exact W.zret (ty := .boolean) (v := 0) hx hb hr (rfl) (fun t ht hW => ⟨⟨congrArg (fun z => Outcome.returned (some (Value.int z))) (show (0 : Int32) = pI (∀ k, k < prt m2 rh → wyF2 (X 0).toInt (Y 0).toInt (P 0).toInt (Q 0).toInt m2 U V k) from (zp_f (fun h => by have h9 := h k (by omega) (by assumption); first | exact absurd h9.1 (by assumption) | exact absurd (by assumption) h9.2.1 | exact absurd (by assumption) h9.2.2)).symm), by rw [ht]; exact hP9, hD9⟩, hS.F ht⟩) hS.2.2 dX4_isWayFree_146
        · have c_2 : ¬ (mtC (X 0).toInt (Y 0).toInt (P 0).toInt (Q 0).toInt (U k).toInt (V k).toInt (U (nxt m2 k)).toInt (V (nxt m2 k)).toInt) := zp_0 c_2
          refine lv_goto (tgt := 147) hx hb dX4_isWayFree_75 (by decide) ?_
          refine lv_iinc (v := nI (k + 1)) (lv' := [(3, .int (nI (k + 1))), (0, .ref lw), (1, .ref r), (2, .ref u)]) hx hb dX4_isWayFree_147 hl (k := 0) rfl (nI_add k 1) (by decide) rfl (fun ls hl => ?_)
          refine lv_goto (tgt := 54) hx hb dX4_isWayFree_150 (by decide) ?_
          exact ih_54 (k + 1) H locs ls (by omega) (by omega) (by intro j hj; rcases Nat.lt_or_ge j k with h | h; exact hall j h; rw [show j = k by omega]; unfold wyF2; first | exact fun h => absurd h (by assumption) | exact fun _ => ⟨by assumption, by assumption, by assumption⟩) hP hD hS (lv_sub hl [0, 1, 2, 3] rfl)
  exact hl_54 _ 0 H locs ls (Nat.lt_succ_self _) (by omega) (by intro j hj; omega) hP hD hS (lv_sub hl [0, 1, 2, 3] rfl)
set_option maxHeartbeats 4000000 in
set_option maxRecDepth 100000 in
theorem k_Law_setTriangle_ooo (l : Launch) (dC : Nat → ClassId) (dI : Nat → Nat → Nat) (cI cZ cF : ClassId) (sz : Nat) (lw : Nat) (dr : Nat) (tg : Nat) (wy : Nat) (br : Nat) (bo : Nat) (aa : Nat) (tx : Nat) (ty : Nat) (nt : Nat) (TX : Nat → Int32) (TY : Nat → Int32) (rt : Int32) (r : Nat) (rx : Nat) (ry : Nat) (n : Nat) (cap : Nat) (X : Nat → Int32) (Y : Nat → Int32) (rg : Int32) (i0 : Nat) (i1 : Nat) (i2 : Nat) (hn : n ≤ cap) (hcap : cap ≤ 1000) (hi0 : i0 < n) (hi1 : i1 < n) (hi2 : i2 < n) : Met l yX4_setTriangle (.code yX4_setTriangle cX4_setTriangle 7 none :: ws0) ({ frames := 1, cells := 0, slots := 0, locals := 22 } : Room) (va_Pc [.ref lw, .ref r, .int (nI i0), .ref r, .int (nI i1), .ref r, .int (nI i2)] (zPre (dC, dI) classes (zTy cI cZ cF) [(oc3 lw (.ref dr) (.ref tg) (.ref wy) (.ref br) (.ref bo) (.ref aa)), (oc6 tg (.ref tx) (.ref ty) (nI nt) rt), (oa tx cI 3 TX), (oa ty cI 3 TY), (oc6 r (.ref rx) (.ref ry) (nI n) rg), (oa rx cI cap X), (oa ry cI cap Y)] sz zXN)) (zQ none (fun t => va_P (dC, dI) classes [(oc3 lw (.ref dr) (.ref tg) (.ref wy) (.ref br) (.ref bo) (.ref aa)), (oc6 tg (.ref tx) (.ref ty) (nI 3) 1), (oa tx cI 3 (upd (upd (upd TX 0 (X i0)) 1 (X i1)) 2 (X i2))), (oa ty cI 3 (upd (upd (upd TY 0 (Y i0)) 1 (Y i1)) 2 (Y i2))), (oc6 r (.ref rx) (.ref ry) (nI n) rg), (oa rx cI cap X), (oa ry cI cap Y)] t.heap ∧ va_D (va_A [(oc3 lw (.ref dr) (.ref tg) (.ref wy) (.ref br) (.ref bo) (.ref aa)), (oc6 tg (.ref tx) (.ref ty) (nI nt) rt), (oa tx cI 3 TX), (oa ty cI 3 TY), (oc6 r (.ref rx) (.ref ry) (nI n) rg), (oa rx cI cap X), (oa ry cI cap Y)] sz) [(oc3 lw (.ref dr) (.ref tg) (.ref wy) (.ref br) (.ref bo) (.ref aa)), (oc6 tg (.ref tx) (.ref ty) (nI 3) 1), (oa tx cI 3 (upd (upd (upd TX 0 (X i0)) 1 (X i1)) 2 (X i2))), (oa ty cI 3 (upd (upd (upd TY 0 (Y i0)) 1 (Y i1)) 2 (Y i2))), (oc6 r (.ref rx) (.ref ry) (nI n) rg), (oa rx cI cap X), (oa ry cI cap Y)]) (va_A [(oc3 lw (.ref dr) (.ref tg) (.ref wy) (.ref br) (.ref bo) (.ref aa)), (oc6 tg (.ref tx) (.ref ty) (nI nt) rt), (oa tx cI 3 TX), (oa ty cI 3 TY), (oc6 r (.ref rx) (.ref ry) (nI n) rg), (oa rx cI cap X), (oa ry cI cap Y)] sz)) 0 0 (va_A [(oc3 lw (.ref dr) (.ref tg) (.ref wy) (.ref br) (.ref bo) (.ref aa)), (oc6 tg (.ref tx) (.ref ty) (nI nt) rt), (oa tx cI 3 TX), (oa ty cI 3 TY), (oc6 r (.ref rx) (.ref ry) (nI n) rg), (oa rx cI cap X), (oa ry cI cap Y)] sz) := by
  refine Met.ofW (cc := cX4_setTriangle) (maxL := 7) (ret := none) (by decide) rfl ?_
  intro p e s m args below meth c s₁ B hml hv
  obtain ⟨rfl, hsz, hP, hK, hD0, hXN⟩ := hv
  have hx := B.exec
  have hb := B.bytes
  have hr := B.returns
  have hts0 := atoms_spec (ws := .code yX4_setTriangle cX4_setTriangle 7 none :: ws0) B.pre
  have hts : ∀ w9 ∈ ws0, w9.before ([.ref lw, .ref r, .int (nI i0), .ref r, .int (nI i1), .ref r, .int (nI i2)] : List Value).toArray s = true := fun w9 h => hts0 w9 (List.mem_cons_of_mem _ h)
  have hown : s.vm.findClass "ScaleShop$Law" = some m.cls := findClass_of_methodNamed B.named
  have hlocks := B.notSynchronized
  subst hsz
  have hD := hD0.self (sz := s.heap.size)
  clear hD0
  generalize hAe : va_A [(oc3 lw (.ref dr) (.ref tg) (.ref wy) (.ref br) (.ref bo) (.ref aa)), (oc6 tg (.ref tx) (.ref ty) (nI nt) rt), (oa tx cI 3 TX), (oa ty cI 3 TY), (oc6 r (.ref rx) (.ref ry) (nI n) rg), (oa rx cI cap X), (oa ry cI cap Y)] s.heap.size = A at hD ⊢
  have hA : ∀ q : Nat, s.heap.size ≤ q → A q := fun q h => by rw [← hAe]; exact Or.inr h
  clear hAe
  have hS : va_S A s.heap s.heap [] := va_S.rf
  have hP : va_P (dC, dI) classes [(oc3 lw (.ref dr) (.ref tg) (.ref wy) (.ref br) (.ref bo) (.ref aa)), (oc6 tg (.ref tx) (.ref ty) (nI nt) rt), (oa tx cI 3 TX), (oa ty cI 3 TY), (oc6 r (.ref rx) (.ref ry) (nI n) rg), (oa rx cI cap X), (oa ry cI cap Y)] s.heap := hP
  obtain ⟨Q9, hQ9⟩ : ∃ Q9 : State → Prop, Q9 = MQ below (zQ none (fun t => va_P (dC, dI) classes [(oc3 lw (.ref dr) (.ref tg) (.ref wy) (.ref br) (.ref bo) (.ref aa)), (oc6 tg (.ref tx) (.ref ty) (nI 3) 1), (oa tx cI 3 (upd (upd (upd TX 0 (X i0)) 1 (X i1)) 2 (X i2))), (oa ty cI 3 (upd (upd (upd TY 0 (Y i0)) 1 (Y i1)) 2 (Y i2))), (oc6 r (.ref rx) (.ref ry) (nI n) rg), (oa rx cI cap X), (oa ry cI cap Y)] t.heap ∧ va_D A [(oc3 lw (.ref dr) (.ref tg) (.ref wy) (.ref br) (.ref bo) (.ref aa)), (oc6 tg (.ref tx) (.ref ty) (nI 3) 1), (oa tx cI 3 (upd (upd (upd TX 0 (X i0)) 1 (X i1)) 2 (X i2))), (oa ty cI 3 (upd (upd (upd TY 0 (Y i0)) 1 (Y i1)) 2 (Y i2))), (oc6 r (.ref rx) (.ref ry) (nI n) rg), (oa rx cI cap X), (oa ry cI cap Y)]) A) ([.ref lw, .ref r, .int (nI i0), .ref r, .int (nI i1), .ref r, .int (nI i2)] : List Value).toArray s 0 0 A := ⟨_, rfl⟩
  rw [← hQ9]
  have hl := lv_entry ([.ref lw, .ref r, .int (nI i0), .ref r, .int (nI i1), .ref r, .int (nI i2)]) (n := 7) (Nat.le_of_ble_eq_true rfl)
  rw [lg_entry_eq]
  generalize (lg_sl ([.ref lw, .ref r, .int (nI i0), .ref r, .int (nI i1), .ref r, .int (nI i2)]) ++ List.replicate (7 - (lg_sl ([.ref lw, .ref r, .int (nI i0), .ref r, .int (nI i1), .ref r, .int (nI i2)])).length) Slot.unset).toArray = ls at hl ⊢
  have hl : lv_has ls 7 [(0, .ref lw), (1, .ref r), (2, .int (nI i0)), (3, .ref r), (4, .int (nI i1)), (5, .ref r), (6, .int (nI i2))] := hl
  refine lv_aload_n hx hb dX4_setTriangle_0 rfl (lv_at hl 0 rfl) ?_
  refine va_get (D := (dC, dI)) (ci := 3) (v := .ref tg) (C := RX4) (T := TX4) (N := 6) hx hb hts inX4 hown hK hP 0 rfl rfl 1 (by decide) (hts _ mw_221) (fun _ h9 => h9) rfl dX4_setTriangle_1 ?_
  refine lv_iconst (v := 1) hx hb dX4_setTriangle_4 (by decide) ?_
  have hPc := hP.sub (ws' := [(oc6 tg (.ref tx) (.ref ty) (nI nt) rt), (oa tx cI 3 TX), (oa ty cI 3 TY)]) [1, 2, 3] rfl
  have hDc := hD.sub (ws' := [(oc6 tg (.ref tx) (.ref ty) (nI nt) rt), (oa tx cI 3 TX), (oa ty cI 3 TY)]) [1, 2, 3] (by decide) rfl
  have hFc := va_free (wc := [(oc6 tg (.ref tx) (.ref ty) (nI nt) rt), (oa tx cI 3 TX), (oa ty cI 3 TY)]) hD hS hA [1, 2, 3] rfl
  refine zcall (st1 := []) (va_runV (As := [.int 1]) (rest := []) ⟨hx, hb, hml, hown, hts⟩ (k_Row_clear l dC dI cI cZ cF s.heap.size tg tx ty nt 3 TX TY rt 1 (Or.inr rfl)) (cwV 1 hts (zz_gV mw_698 mw_600 mw_601 mw_102 mc_yX7_clear) rfl rfl rfl (by decide +kernel) ⟨Nat.le_of_ble_eq_true rfl, Nat.le_of_ble_eq_true rfl⟩) (zPV2 (q0 := 0) (ci := 6) hPc hDc hK hXN rfl rfl) rfl rfl hl.1 rfl (lv_room (Nat.le_of_ble_eq_true rfl)) dX4_setTriangle_5 ⟨Nat.le_of_ble_eq_true rfl, Nat.le_of_ble_eq_true rfl⟩) hS hFc hFc rfl (fun t H1 locs ht hB hk1 hS => ?_)
  obtain ⟨hP1, hD1⟩ := hB
  rw [ht] at hP1
  obtain ⟨hP, hD⟩ := va_join (wr := [(oc3 lw (.ref dr) (.ref tg) (.ref wy) (.ref br) (.ref bo) (.ref aa)), (oc6 r (.ref rx) (.ref ry) (nI n) rg), (oa rx cI cap X), (oa ry cI cap Y)]) (w1 := [(oc6 tg (.ref tx) (.ref ty) (nI 0) 1), (oa tx cI 3 TX), (oa ty cI 3 TY)]) hP hD [1, 2, 3] [0, 4, 5, 6] rfl rfl (by decide) (by decide) hk1 hFc hP1 hD1
  clear hk1 hPc hDc hFc hP1 hD1 ht
  generalize H1 = H at hP hS ⊢
  have hP := hP.sub (ws' := [(oc3 lw (.ref dr) (.ref tg) (.ref wy) (.ref br) (.ref bo) (.ref aa)), (oc6 tg (.ref tx) (.ref ty) (nI 0) 1), (oa tx cI 3 TX), (oa ty cI 3 TY), (oc6 r (.ref rx) (.ref ry) (nI n) rg), (oa rx cI cap X), (oa ry cI cap Y)]) [0, 4, 5, 6, 1, 2, 3] rfl
  have hD := hD.sub (ws' := [(oc3 lw (.ref dr) (.ref tg) (.ref wy) (.ref br) (.ref bo) (.ref aa)), (oc6 tg (.ref tx) (.ref ty) (nI 0) 1), (oa tx cI 3 TX), (oa ty cI 3 TY), (oc6 r (.ref rx) (.ref ry) (nI n) rg), (oa rx cI cap X), (oa ry cI cap Y)]) [0, 4, 5, 6, 1, 2, 3] (by decide) rfl
  have hP : va_P (dC, dI) classes [(oc3 lw (.ref dr) (.ref tg) (.ref wy) (.ref br) (.ref bo) (.ref aa)), (oc6 tg (.ref tx) (.ref ty) (nI 0) 1), (oa tx cI 3 TX), (oa ty cI 3 TY), (oc6 r (.ref rx) (.ref ry) (nI n) rg), (oa rx cI cap X), (oa ry cI cap Y)] H := hP
  have hD : va_D A [(oc3 lw (.ref dr) (.ref tg) (.ref wy) (.ref br) (.ref bo) (.ref aa)), (oc6 tg (.ref tx) (.ref ty) (nI 0) 1), (oa tx cI 3 TX), (oa ty cI 3 TY), (oc6 r (.ref rx) (.ref ry) (nI n) rg), (oa rx cI cap X), (oa ry cI cap Y)] := hD
  refine lv_aload_n hx hb dX4_setTriangle_8 rfl (lv_at hl 0 rfl) ?_
  refine va_get (D := (dC, dI)) (ci := 3) (v := .ref tg) (C := RX4) (T := TX4) (N := 6) hx hb hts inX4 hown hK hP 0 rfl rfl 1 (by decide) (hts _ mw_221) (fun _ h9 => h9) rfl dX4_setTriangle_9 ?_
  refine lv_aload_n hx hb dX4_setTriangle_12 rfl (lv_at hl 1 rfl) ?_
  refine va_get (D := (dC, dI)) (ci := 6) (v := .ref rx) (C := RX7) (T := TX7) (N := 4) hx hb hts inX7 hown hK hP 4 rfl rfl 0 (by decide) (hts _ mw_163) (fun _ h9 => h9) rfl dX4_setTriangle_13 ?_
  refine lv_iload_n hx hb dX4_setTriangle_16 rfl (lv_at hl 2 rfl) ?_
  refine z_iald hx hb hK hP 5 0 rfl rfl (e := i0) rfl (by omega) (by omega) dX4_setTriangle_17 ?_
  refine lv_aload_n hx hb dX4_setTriangle_18 rfl (lv_at hl 1 rfl) ?_
  refine va_get (D := (dC, dI)) (ci := 6) (v := .ref ry) (C := RX7) (T := TX7) (N := 4) hx hb hts inX7 hown hK hP 4 rfl rfl 1 (by decide) (hts _ mw_170) (fun _ h9 => h9) rfl dX4_setTriangle_19 ?_
  refine lv_iload_n hx hb dX4_setTriangle_22 rfl (lv_at hl 2 rfl) ?_
  refine z_iald hx hb hK hP 6 0 rfl rfl (e := i0) rfl (by omega) (by omega) dX4_setTriangle_23 ?_
  have hPc := hP.sub (ws' := [(oc6 tg (.ref tx) (.ref ty) (nI 0) 1), (oa tx cI 3 TX), (oa ty cI 3 TY)]) [1, 2, 3] rfl
  have hDc := hD.sub (ws' := [(oc6 tg (.ref tx) (.ref ty) (nI 0) 1), (oa tx cI 3 TX), (oa ty cI 3 TY)]) [1, 2, 3] (by decide) rfl
  have hFc := va_free (wc := [(oc6 tg (.ref tx) (.ref ty) (nI 0) 1), (oa tx cI 3 TX), (oa ty cI 3 TY)]) hD hS hA [1, 2, 3] rfl
  refine zcall (st1 := []) (va_runV (As := [.int (X i0), .int (Y i0)]) (rest := []) ⟨hx, hb, hml, hown, hts⟩ (k_Row_put l dC dI cI cZ cF H.size tg tx ty 0 3 TX TY 1 (X i0) (Y i0) (by omega) (by omega)) (cwV 2 hts (zz_gV mw_699 mw_506 mw_507 mw_102 mc_yX7_put) rfl rfl rfl (by decide +kernel) ⟨Nat.le_of_ble_eq_true rfl, Nat.le_of_ble_eq_true rfl⟩) (zPV2 (q0 := 0) (ci := 6) hPc hDc hK hXN rfl rfl) rfl rfl hl.1 rfl (lv_room (Nat.le_of_ble_eq_true rfl)) dX4_setTriangle_24 ⟨Nat.le_of_ble_eq_true rfl, Nat.le_of_ble_eq_true rfl⟩) hS hFc hFc rfl (fun t H1 locs ht hB hk1 hS => ?_)
  obtain ⟨hP1, hD1⟩ := hB
  rw [ht] at hP1
  obtain ⟨hP, hD⟩ := va_join (wr := [(oc3 lw (.ref dr) (.ref tg) (.ref wy) (.ref br) (.ref bo) (.ref aa)), (oc6 r (.ref rx) (.ref ry) (nI n) rg), (oa rx cI cap X), (oa ry cI cap Y)]) (w1 := [(oc6 tg (.ref tx) (.ref ty) (nI (0 + 1)) 1), (oa tx cI 3 (upd TX 0 (X i0))), (oa ty cI 3 (upd TY 0 (Y i0)))]) hP hD [1, 2, 3] [0, 4, 5, 6] rfl rfl (by decide) (by decide) hk1 hFc hP1 hD1
  clear hk1 hPc hDc hFc hP1 hD1 ht
  generalize H1 = H at hP hS ⊢
  have hP := hP.sub (ws' := [(oc3 lw (.ref dr) (.ref tg) (.ref wy) (.ref br) (.ref bo) (.ref aa)), (oc6 tg (.ref tx) (.ref ty) (nI (0 + 1)) 1), (oa tx cI 3 (upd TX 0 (X i0))), (oa ty cI 3 (upd TY 0 (Y i0))), (oc6 r (.ref rx) (.ref ry) (nI n) rg), (oa rx cI cap X), (oa ry cI cap Y)]) [0, 4, 5, 6, 1, 2, 3] rfl
  have hD := hD.sub (ws' := [(oc3 lw (.ref dr) (.ref tg) (.ref wy) (.ref br) (.ref bo) (.ref aa)), (oc6 tg (.ref tx) (.ref ty) (nI (0 + 1)) 1), (oa tx cI 3 (upd TX 0 (X i0))), (oa ty cI 3 (upd TY 0 (Y i0))), (oc6 r (.ref rx) (.ref ry) (nI n) rg), (oa rx cI cap X), (oa ry cI cap Y)]) [0, 4, 5, 6, 1, 2, 3] (by decide) rfl
  have hP : va_P (dC, dI) classes [(oc3 lw (.ref dr) (.ref tg) (.ref wy) (.ref br) (.ref bo) (.ref aa)), (oc6 tg (.ref tx) (.ref ty) (nI (0 + 1)) 1), (oa tx cI 3 (upd TX 0 (X i0))), (oa ty cI 3 (upd TY 0 (Y i0))), (oc6 r (.ref rx) (.ref ry) (nI n) rg), (oa rx cI cap X), (oa ry cI cap Y)] H := hP
  have hD : va_D A [(oc3 lw (.ref dr) (.ref tg) (.ref wy) (.ref br) (.ref bo) (.ref aa)), (oc6 tg (.ref tx) (.ref ty) (nI (0 + 1)) 1), (oa tx cI 3 (upd TX 0 (X i0))), (oa ty cI 3 (upd TY 0 (Y i0))), (oc6 r (.ref rx) (.ref ry) (nI n) rg), (oa rx cI cap X), (oa ry cI cap Y)] := hD
  refine lv_aload_n hx hb dX4_setTriangle_27 rfl (lv_at hl 0 rfl) ?_
  refine va_get (D := (dC, dI)) (ci := 3) (v := .ref tg) (C := RX4) (T := TX4) (N := 6) hx hb hts inX4 hown hK hP 0 rfl rfl 1 (by decide) (hts _ mw_221) (fun _ h9 => h9) rfl dX4_setTriangle_28 ?_
  refine lv_aload_n hx hb dX4_setTriangle_31 rfl (lv_at hl 3 rfl) ?_
  refine va_get (D := (dC, dI)) (ci := 6) (v := .ref rx) (C := RX7) (T := TX7) (N := 4) hx hb hts inX7 hown hK hP 4 rfl rfl 0 (by decide) (hts _ mw_163) (fun _ h9 => h9) rfl dX4_setTriangle_32 ?_
  refine lv_iload hx hb dX4_setTriangle_35 (lv_at hl 4 rfl) ?_
  refine z_iald hx hb hK hP 5 0 rfl rfl (e := i1) rfl (by omega) (by omega) dX4_setTriangle_37 ?_
  refine lv_aload_n hx hb dX4_setTriangle_38 rfl (lv_at hl 3 rfl) ?_
  refine va_get (D := (dC, dI)) (ci := 6) (v := .ref ry) (C := RX7) (T := TX7) (N := 4) hx hb hts inX7 hown hK hP 4 rfl rfl 1 (by decide) (hts _ mw_170) (fun _ h9 => h9) rfl dX4_setTriangle_39 ?_
  refine lv_iload hx hb dX4_setTriangle_42 (lv_at hl 4 rfl) ?_
  refine z_iald hx hb hK hP 6 0 rfl rfl (e := i1) rfl (by omega) (by omega) dX4_setTriangle_44 ?_
  have hPc := hP.sub (ws' := [(oc6 tg (.ref tx) (.ref ty) (nI (0 + 1)) 1), (oa tx cI 3 (upd TX 0 (X i0))), (oa ty cI 3 (upd TY 0 (Y i0)))]) [1, 2, 3] rfl
  have hDc := hD.sub (ws' := [(oc6 tg (.ref tx) (.ref ty) (nI (0 + 1)) 1), (oa tx cI 3 (upd TX 0 (X i0))), (oa ty cI 3 (upd TY 0 (Y i0)))]) [1, 2, 3] (by decide) rfl
  have hFc := va_free (wc := [(oc6 tg (.ref tx) (.ref ty) (nI (0 + 1)) 1), (oa tx cI 3 (upd TX 0 (X i0))), (oa ty cI 3 (upd TY 0 (Y i0)))]) hD hS hA [1, 2, 3] rfl
  refine zcall (st1 := []) (va_runV (As := [.int (X i1), .int (Y i1)]) (rest := []) ⟨hx, hb, hml, hown, hts⟩ (k_Row_put l dC dI cI cZ cF H.size tg tx ty (0 + 1) 3 (upd TX 0 (X i0)) (upd TY 0 (Y i0)) 1 (X i1) (Y i1) (by omega) (by omega)) (cwV 2 hts (zz_gV mw_699 mw_506 mw_507 mw_102 mc_yX7_put) rfl rfl rfl (by decide +kernel) ⟨Nat.le_of_ble_eq_true rfl, Nat.le_of_ble_eq_true rfl⟩) (zPV2 (q0 := 0) (ci := 6) hPc hDc hK hXN rfl rfl) rfl rfl hl.1 rfl (lv_room (Nat.le_of_ble_eq_true rfl)) dX4_setTriangle_45 ⟨Nat.le_of_ble_eq_true rfl, Nat.le_of_ble_eq_true rfl⟩) hS hFc hFc rfl (fun t H1 locs ht hB hk1 hS => ?_)
  obtain ⟨hP1, hD1⟩ := hB
  rw [ht] at hP1
  obtain ⟨hP, hD⟩ := va_join (wr := [(oc3 lw (.ref dr) (.ref tg) (.ref wy) (.ref br) (.ref bo) (.ref aa)), (oc6 r (.ref rx) (.ref ry) (nI n) rg), (oa rx cI cap X), (oa ry cI cap Y)]) (w1 := [(oc6 tg (.ref tx) (.ref ty) (nI ((0 + 1) + 1)) 1), (oa tx cI 3 (upd (upd TX 0 (X i0)) (0 + 1) (X i1))), (oa ty cI 3 (upd (upd TY 0 (Y i0)) (0 + 1) (Y i1)))]) hP hD [1, 2, 3] [0, 4, 5, 6] rfl rfl (by decide) (by decide) hk1 hFc hP1 hD1
  clear hk1 hPc hDc hFc hP1 hD1 ht
  generalize H1 = H at hP hS ⊢
  have hP := hP.sub (ws' := [(oc3 lw (.ref dr) (.ref tg) (.ref wy) (.ref br) (.ref bo) (.ref aa)), (oc6 tg (.ref tx) (.ref ty) (nI ((0 + 1) + 1)) 1), (oa tx cI 3 (upd (upd TX 0 (X i0)) (0 + 1) (X i1))), (oa ty cI 3 (upd (upd TY 0 (Y i0)) (0 + 1) (Y i1))), (oc6 r (.ref rx) (.ref ry) (nI n) rg), (oa rx cI cap X), (oa ry cI cap Y)]) [0, 4, 5, 6, 1, 2, 3] rfl
  have hD := hD.sub (ws' := [(oc3 lw (.ref dr) (.ref tg) (.ref wy) (.ref br) (.ref bo) (.ref aa)), (oc6 tg (.ref tx) (.ref ty) (nI ((0 + 1) + 1)) 1), (oa tx cI 3 (upd (upd TX 0 (X i0)) (0 + 1) (X i1))), (oa ty cI 3 (upd (upd TY 0 (Y i0)) (0 + 1) (Y i1))), (oc6 r (.ref rx) (.ref ry) (nI n) rg), (oa rx cI cap X), (oa ry cI cap Y)]) [0, 4, 5, 6, 1, 2, 3] (by decide) rfl
  have hP : va_P (dC, dI) classes [(oc3 lw (.ref dr) (.ref tg) (.ref wy) (.ref br) (.ref bo) (.ref aa)), (oc6 tg (.ref tx) (.ref ty) (nI ((0 + 1) + 1)) 1), (oa tx cI 3 (upd (upd TX 0 (X i0)) (0 + 1) (X i1))), (oa ty cI 3 (upd (upd TY 0 (Y i0)) (0 + 1) (Y i1))), (oc6 r (.ref rx) (.ref ry) (nI n) rg), (oa rx cI cap X), (oa ry cI cap Y)] H := hP
  have hD : va_D A [(oc3 lw (.ref dr) (.ref tg) (.ref wy) (.ref br) (.ref bo) (.ref aa)), (oc6 tg (.ref tx) (.ref ty) (nI ((0 + 1) + 1)) 1), (oa tx cI 3 (upd (upd TX 0 (X i0)) (0 + 1) (X i1))), (oa ty cI 3 (upd (upd TY 0 (Y i0)) (0 + 1) (Y i1))), (oc6 r (.ref rx) (.ref ry) (nI n) rg), (oa rx cI cap X), (oa ry cI cap Y)] := hD
  refine lv_aload_n hx hb dX4_setTriangle_48 rfl (lv_at hl 0 rfl) ?_
  refine va_get (D := (dC, dI)) (ci := 3) (v := .ref tg) (C := RX4) (T := TX4) (N := 6) hx hb hts inX4 hown hK hP 0 rfl rfl 1 (by decide) (hts _ mw_221) (fun _ h9 => h9) rfl dX4_setTriangle_49 ?_
  refine lv_aload hx hb dX4_setTriangle_52 (lv_at hl 5 rfl) ?_
  refine va_get (D := (dC, dI)) (ci := 6) (v := .ref rx) (C := RX7) (T := TX7) (N := 4) hx hb hts inX7 hown hK hP 4 rfl rfl 0 (by decide) (hts _ mw_163) (fun _ h9 => h9) rfl dX4_setTriangle_54 ?_
  refine lv_iload hx hb dX4_setTriangle_57 (lv_at hl 6 rfl) ?_
  refine z_iald hx hb hK hP 5 0 rfl rfl (e := i2) rfl (by omega) (by omega) dX4_setTriangle_59 ?_
  refine lv_aload hx hb dX4_setTriangle_60 (lv_at hl 5 rfl) ?_
  refine va_get (D := (dC, dI)) (ci := 6) (v := .ref ry) (C := RX7) (T := TX7) (N := 4) hx hb hts inX7 hown hK hP 4 rfl rfl 1 (by decide) (hts _ mw_170) (fun _ h9 => h9) rfl dX4_setTriangle_62 ?_
  refine lv_iload hx hb dX4_setTriangle_65 (lv_at hl 6 rfl) ?_
  refine z_iald hx hb hK hP 6 0 rfl rfl (e := i2) rfl (by omega) (by omega) dX4_setTriangle_67 ?_
  have hPc := hP.sub (ws' := [(oc6 tg (.ref tx) (.ref ty) (nI ((0 + 1) + 1)) 1), (oa tx cI 3 (upd (upd TX 0 (X i0)) (0 + 1) (X i1))), (oa ty cI 3 (upd (upd TY 0 (Y i0)) (0 + 1) (Y i1)))]) [1, 2, 3] rfl
  have hDc := hD.sub (ws' := [(oc6 tg (.ref tx) (.ref ty) (nI ((0 + 1) + 1)) 1), (oa tx cI 3 (upd (upd TX 0 (X i0)) (0 + 1) (X i1))), (oa ty cI 3 (upd (upd TY 0 (Y i0)) (0 + 1) (Y i1)))]) [1, 2, 3] (by decide) rfl
  have hFc := va_free (wc := [(oc6 tg (.ref tx) (.ref ty) (nI ((0 + 1) + 1)) 1), (oa tx cI 3 (upd (upd TX 0 (X i0)) (0 + 1) (X i1))), (oa ty cI 3 (upd (upd TY 0 (Y i0)) (0 + 1) (Y i1)))]) hD hS hA [1, 2, 3] rfl
  refine zcall (st1 := []) (va_runV (As := [.int (X i2), .int (Y i2)]) (rest := []) ⟨hx, hb, hml, hown, hts⟩ (k_Row_put l dC dI cI cZ cF H.size tg tx ty ((0 + 1) + 1) 3 (upd (upd TX 0 (X i0)) (0 + 1) (X i1)) (upd (upd TY 0 (Y i0)) (0 + 1) (Y i1)) 1 (X i2) (Y i2) (by omega) (by omega)) (cwV 2 hts (zz_gV mw_699 mw_506 mw_507 mw_102 mc_yX7_put) rfl rfl rfl (by decide +kernel) ⟨Nat.le_of_ble_eq_true rfl, Nat.le_of_ble_eq_true rfl⟩) (zPV2 (q0 := 0) (ci := 6) hPc hDc hK hXN rfl rfl) rfl rfl hl.1 rfl (lv_room (Nat.le_of_ble_eq_true rfl)) dX4_setTriangle_68 ⟨Nat.le_of_ble_eq_true rfl, Nat.le_of_ble_eq_true rfl⟩) hS hFc hFc rfl (fun t H1 locs ht hB hk1 hS => ?_)
  obtain ⟨hP1, hD1⟩ := hB
  rw [ht] at hP1
  obtain ⟨hP, hD⟩ := va_join (wr := [(oc3 lw (.ref dr) (.ref tg) (.ref wy) (.ref br) (.ref bo) (.ref aa)), (oc6 r (.ref rx) (.ref ry) (nI n) rg), (oa rx cI cap X), (oa ry cI cap Y)]) (w1 := [(oc6 tg (.ref tx) (.ref ty) (nI (((0 + 1) + 1) + 1)) 1), (oa tx cI 3 (upd (upd (upd TX 0 (X i0)) (0 + 1) (X i1)) ((0 + 1) + 1) (X i2))), (oa ty cI 3 (upd (upd (upd TY 0 (Y i0)) (0 + 1) (Y i1)) ((0 + 1) + 1) (Y i2)))]) hP hD [1, 2, 3] [0, 4, 5, 6] rfl rfl (by decide) (by decide) hk1 hFc hP1 hD1
  clear hk1 hPc hDc hFc hP1 hD1 ht
  generalize H1 = H at hP hS ⊢
  have hP := hP.sub (ws' := [(oc3 lw (.ref dr) (.ref tg) (.ref wy) (.ref br) (.ref bo) (.ref aa)), (oc6 tg (.ref tx) (.ref ty) (nI (((0 + 1) + 1) + 1)) 1), (oa tx cI 3 (upd (upd (upd TX 0 (X i0)) (0 + 1) (X i1)) ((0 + 1) + 1) (X i2))), (oa ty cI 3 (upd (upd (upd TY 0 (Y i0)) (0 + 1) (Y i1)) ((0 + 1) + 1) (Y i2))), (oc6 r (.ref rx) (.ref ry) (nI n) rg), (oa rx cI cap X), (oa ry cI cap Y)]) [0, 4, 5, 6, 1, 2, 3] rfl
  have hD := hD.sub (ws' := [(oc3 lw (.ref dr) (.ref tg) (.ref wy) (.ref br) (.ref bo) (.ref aa)), (oc6 tg (.ref tx) (.ref ty) (nI (((0 + 1) + 1) + 1)) 1), (oa tx cI 3 (upd (upd (upd TX 0 (X i0)) (0 + 1) (X i1)) ((0 + 1) + 1) (X i2))), (oa ty cI 3 (upd (upd (upd TY 0 (Y i0)) (0 + 1) (Y i1)) ((0 + 1) + 1) (Y i2))), (oc6 r (.ref rx) (.ref ry) (nI n) rg), (oa rx cI cap X), (oa ry cI cap Y)]) [0, 4, 5, 6, 1, 2, 3] (by decide) rfl
  have hP : va_P (dC, dI) classes [(oc3 lw (.ref dr) (.ref tg) (.ref wy) (.ref br) (.ref bo) (.ref aa)), (oc6 tg (.ref tx) (.ref ty) (nI (((0 + 1) + 1) + 1)) 1), (oa tx cI 3 (upd (upd (upd TX 0 (X i0)) (0 + 1) (X i1)) ((0 + 1) + 1) (X i2))), (oa ty cI 3 (upd (upd (upd TY 0 (Y i0)) (0 + 1) (Y i1)) ((0 + 1) + 1) (Y i2))), (oc6 r (.ref rx) (.ref ry) (nI n) rg), (oa rx cI cap X), (oa ry cI cap Y)] H := hP
  have hD : va_D A [(oc3 lw (.ref dr) (.ref tg) (.ref wy) (.ref br) (.ref bo) (.ref aa)), (oc6 tg (.ref tx) (.ref ty) (nI (((0 + 1) + 1) + 1)) 1), (oa tx cI 3 (upd (upd (upd TX 0 (X i0)) (0 + 1) (X i1)) ((0 + 1) + 1) (X i2))), (oa ty cI 3 (upd (upd (upd TY 0 (Y i0)) (0 + 1) (Y i1)) ((0 + 1) + 1) (Y i2))), (oc6 r (.ref rx) (.ref ry) (nI n) rg), (oa rx cI cap X), (oa ry cI cap Y)] := hD
  have hP9 := hP.sub (ws' := [(oc3 lw (.ref dr) (.ref tg) (.ref wy) (.ref br) (.ref bo) (.ref aa)), (oc6 tg (.ref tx) (.ref ty) (nI (((0 + 1) + 1) + 1)) 1), (oa tx cI 3 (upd (upd (upd TX 0 (X i0)) (0 + 1) (X i1)) ((0 + 1) + 1) (X i2))), (oa ty cI 3 (upd (upd (upd TY 0 (Y i0)) (0 + 1) (Y i1)) ((0 + 1) + 1) (Y i2))), (oc6 r (.ref rx) (.ref ry) (nI n) rg), (oa rx cI cap X), (oa ry cI cap Y)]) [0, 1, 2, 3, 4, 5, 6] rfl
  have hD9 := hD.sub (ws' := [(oc3 lw (.ref dr) (.ref tg) (.ref wy) (.ref br) (.ref bo) (.ref aa)), (oc6 tg (.ref tx) (.ref ty) (nI (((0 + 1) + 1) + 1)) 1), (oa tx cI 3 (upd (upd (upd TX 0 (X i0)) (0 + 1) (X i1)) ((0 + 1) + 1) (X i2))), (oa ty cI 3 (upd (upd (upd TY 0 (Y i0)) (0 + 1) (Y i1)) ((0 + 1) + 1) (Y i2))), (oc6 r (.ref rx) (.ref ry) (nI n) rg), (oa rx cI cap X), (oa ry cI cap Y)]) [0, 1, 2, 3, 4, 5, 6] (by decide) rfl
  have hE9 : ([(oc3 lw (.ref dr) (.ref tg) (.ref wy) (.ref br) (.ref bo) (.ref aa)), (oc6 tg (.ref tx) (.ref ty) (nI (((0 + 1) + 1) + 1)) 1), (oa tx cI 3 (upd (upd (upd TX 0 (X i0)) (0 + 1) (X i1)) ((0 + 1) + 1) (X i2))), (oa ty cI 3 (upd (upd (upd TY 0 (Y i0)) (0 + 1) (Y i1)) ((0 + 1) + 1) (Y i2))), (oc6 r (.ref rx) (.ref ry) (nI n) rg), (oa rx cI cap X), (oa ry cI cap Y)] : va_W) = [(oc3 lw (.ref dr) (.ref tg) (.ref wy) (.ref br) (.ref bo) (.ref aa)), (oc6 tg (.ref tx) (.ref ty) (nI 3) 1), (oa tx cI 3 (upd (upd (upd TX 0 (X i0)) 1 (X i1)) 2 (X i2))), (oa ty cI 3 (upd (upd (upd TY 0 (Y i0)) 1 (Y i1)) 2 (Y i2))), (oc6 r (.ref rx) (.ref ry) (nI n) rg), (oa rx cI cap X), (oa ry cI cap Y)] := by rfl
  rw [hE9] at hP9 hD9
  rw [hQ9]
  exact W.vret hx hb hr (fun t ht hW => ⟨⟨rfl, by rw [ht]; exact hP9, hD9⟩, hS.F ht⟩) hS.2.2 dX4_setTriangle_71
set_option maxHeartbeats 4000000 in
set_option maxRecDepth 100000 in
theorem k_Law_setTriangle_ood (l : Launch) (dC : Nat → ClassId) (dI : Nat → Nat → Nat) (cI cZ cF : ClassId) (sz : Nat) (lw : Nat) (dr : Nat) (tg : Nat) (wy : Nat) (br : Nat) (bo : Nat) (aa : Nat) (tx : Nat) (ty : Nat) (nt : Nat) (TX : Nat → Int32) (TY : Nat → Int32) (rt : Int32) (r : Nat) (rx : Nat) (ry : Nat) (n : Nat) (cap : Nat) (X : Nat → Int32) (Y : Nat → Int32) (rg : Int32) (dx : Nat) (dy : Nat) (nd : Nat) (cd : Nat) (P : Nat → Int32) (Q : Nat → Int32) (rd : Int32) (i0 : Nat) (i1 : Nat) (i2 : Nat) (hn : n ≤ cap) (hcap : cap ≤ 1000) (hnd : nd ≤ cd) (hcd : cd ≤ 1000) (hi0 : i0 < n) (hi1 : i1 < n) (hi2 : i2 < nd) : Met l yX4_setTriangle (.code yX4_setTriangle cX4_setTriangle 7 none :: ws0) ({ frames := 1, cells := 0, slots := 0, locals := 22 } : Room) (va_Pc [.ref lw, .ref r, .int (nI i0), .ref r, .int (nI i1), .ref dr, .int (nI i2)] (zPre (dC, dI) classes (zTy cI cZ cF) [(oc3 lw (.ref dr) (.ref tg) (.ref wy) (.ref br) (.ref bo) (.ref aa)), (oc6 tg (.ref tx) (.ref ty) (nI nt) rt), (oa tx cI 3 TX), (oa ty cI 3 TY), (oc6 r (.ref rx) (.ref ry) (nI n) rg), (oa rx cI cap X), (oa ry cI cap Y), (oc6 dr (.ref dx) (.ref dy) (nI nd) rd), (oa dx cI cd P), (oa dy cI cd Q)] sz zXN)) (zQ none (fun t => va_P (dC, dI) classes [(oc3 lw (.ref dr) (.ref tg) (.ref wy) (.ref br) (.ref bo) (.ref aa)), (oc6 tg (.ref tx) (.ref ty) (nI 3) 1), (oa tx cI 3 (upd (upd (upd TX 0 (X i0)) 1 (X i1)) 2 (P i2))), (oa ty cI 3 (upd (upd (upd TY 0 (Y i0)) 1 (Y i1)) 2 (Q i2))), (oc6 r (.ref rx) (.ref ry) (nI n) rg), (oa rx cI cap X), (oa ry cI cap Y), (oc6 dr (.ref dx) (.ref dy) (nI nd) rd), (oa dx cI cd P), (oa dy cI cd Q)] t.heap ∧ va_D (va_A [(oc3 lw (.ref dr) (.ref tg) (.ref wy) (.ref br) (.ref bo) (.ref aa)), (oc6 tg (.ref tx) (.ref ty) (nI nt) rt), (oa tx cI 3 TX), (oa ty cI 3 TY), (oc6 r (.ref rx) (.ref ry) (nI n) rg), (oa rx cI cap X), (oa ry cI cap Y), (oc6 dr (.ref dx) (.ref dy) (nI nd) rd), (oa dx cI cd P), (oa dy cI cd Q)] sz) [(oc3 lw (.ref dr) (.ref tg) (.ref wy) (.ref br) (.ref bo) (.ref aa)), (oc6 tg (.ref tx) (.ref ty) (nI 3) 1), (oa tx cI 3 (upd (upd (upd TX 0 (X i0)) 1 (X i1)) 2 (P i2))), (oa ty cI 3 (upd (upd (upd TY 0 (Y i0)) 1 (Y i1)) 2 (Q i2))), (oc6 r (.ref rx) (.ref ry) (nI n) rg), (oa rx cI cap X), (oa ry cI cap Y), (oc6 dr (.ref dx) (.ref dy) (nI nd) rd), (oa dx cI cd P), (oa dy cI cd Q)]) (va_A [(oc3 lw (.ref dr) (.ref tg) (.ref wy) (.ref br) (.ref bo) (.ref aa)), (oc6 tg (.ref tx) (.ref ty) (nI nt) rt), (oa tx cI 3 TX), (oa ty cI 3 TY), (oc6 r (.ref rx) (.ref ry) (nI n) rg), (oa rx cI cap X), (oa ry cI cap Y), (oc6 dr (.ref dx) (.ref dy) (nI nd) rd), (oa dx cI cd P), (oa dy cI cd Q)] sz)) 0 0 (va_A [(oc3 lw (.ref dr) (.ref tg) (.ref wy) (.ref br) (.ref bo) (.ref aa)), (oc6 tg (.ref tx) (.ref ty) (nI nt) rt), (oa tx cI 3 TX), (oa ty cI 3 TY), (oc6 r (.ref rx) (.ref ry) (nI n) rg), (oa rx cI cap X), (oa ry cI cap Y), (oc6 dr (.ref dx) (.ref dy) (nI nd) rd), (oa dx cI cd P), (oa dy cI cd Q)] sz) := by
  refine Met.ofW (cc := cX4_setTriangle) (maxL := 7) (ret := none) (by decide) rfl ?_
  intro p e s m args below meth c s₁ B hml hv
  obtain ⟨rfl, hsz, hP, hK, hD0, hXN⟩ := hv
  have hx := B.exec
  have hb := B.bytes
  have hr := B.returns
  have hts0 := atoms_spec (ws := .code yX4_setTriangle cX4_setTriangle 7 none :: ws0) B.pre
  have hts : ∀ w9 ∈ ws0, w9.before ([.ref lw, .ref r, .int (nI i0), .ref r, .int (nI i1), .ref dr, .int (nI i2)] : List Value).toArray s = true := fun w9 h => hts0 w9 (List.mem_cons_of_mem _ h)
  have hown : s.vm.findClass "ScaleShop$Law" = some m.cls := findClass_of_methodNamed B.named
  have hlocks := B.notSynchronized
  subst hsz
  have hD := hD0.self (sz := s.heap.size)
  clear hD0
  generalize hAe : va_A [(oc3 lw (.ref dr) (.ref tg) (.ref wy) (.ref br) (.ref bo) (.ref aa)), (oc6 tg (.ref tx) (.ref ty) (nI nt) rt), (oa tx cI 3 TX), (oa ty cI 3 TY), (oc6 r (.ref rx) (.ref ry) (nI n) rg), (oa rx cI cap X), (oa ry cI cap Y), (oc6 dr (.ref dx) (.ref dy) (nI nd) rd), (oa dx cI cd P), (oa dy cI cd Q)] s.heap.size = A at hD ⊢
  have hA : ∀ q : Nat, s.heap.size ≤ q → A q := fun q h => by rw [← hAe]; exact Or.inr h
  clear hAe
  have hS : va_S A s.heap s.heap [] := va_S.rf
  have hP : va_P (dC, dI) classes [(oc3 lw (.ref dr) (.ref tg) (.ref wy) (.ref br) (.ref bo) (.ref aa)), (oc6 tg (.ref tx) (.ref ty) (nI nt) rt), (oa tx cI 3 TX), (oa ty cI 3 TY), (oc6 r (.ref rx) (.ref ry) (nI n) rg), (oa rx cI cap X), (oa ry cI cap Y), (oc6 dr (.ref dx) (.ref dy) (nI nd) rd), (oa dx cI cd P), (oa dy cI cd Q)] s.heap := hP
  obtain ⟨Q9, hQ9⟩ : ∃ Q9 : State → Prop, Q9 = MQ below (zQ none (fun t => va_P (dC, dI) classes [(oc3 lw (.ref dr) (.ref tg) (.ref wy) (.ref br) (.ref bo) (.ref aa)), (oc6 tg (.ref tx) (.ref ty) (nI 3) 1), (oa tx cI 3 (upd (upd (upd TX 0 (X i0)) 1 (X i1)) 2 (P i2))), (oa ty cI 3 (upd (upd (upd TY 0 (Y i0)) 1 (Y i1)) 2 (Q i2))), (oc6 r (.ref rx) (.ref ry) (nI n) rg), (oa rx cI cap X), (oa ry cI cap Y), (oc6 dr (.ref dx) (.ref dy) (nI nd) rd), (oa dx cI cd P), (oa dy cI cd Q)] t.heap ∧ va_D A [(oc3 lw (.ref dr) (.ref tg) (.ref wy) (.ref br) (.ref bo) (.ref aa)), (oc6 tg (.ref tx) (.ref ty) (nI 3) 1), (oa tx cI 3 (upd (upd (upd TX 0 (X i0)) 1 (X i1)) 2 (P i2))), (oa ty cI 3 (upd (upd (upd TY 0 (Y i0)) 1 (Y i1)) 2 (Q i2))), (oc6 r (.ref rx) (.ref ry) (nI n) rg), (oa rx cI cap X), (oa ry cI cap Y), (oc6 dr (.ref dx) (.ref dy) (nI nd) rd), (oa dx cI cd P), (oa dy cI cd Q)]) A) ([.ref lw, .ref r, .int (nI i0), .ref r, .int (nI i1), .ref dr, .int (nI i2)] : List Value).toArray s 0 0 A := ⟨_, rfl⟩
  rw [← hQ9]
  have hl := lv_entry ([.ref lw, .ref r, .int (nI i0), .ref r, .int (nI i1), .ref dr, .int (nI i2)]) (n := 7) (Nat.le_of_ble_eq_true rfl)
  rw [lg_entry_eq]
  generalize (lg_sl ([.ref lw, .ref r, .int (nI i0), .ref r, .int (nI i1), .ref dr, .int (nI i2)]) ++ List.replicate (7 - (lg_sl ([.ref lw, .ref r, .int (nI i0), .ref r, .int (nI i1), .ref dr, .int (nI i2)])).length) Slot.unset).toArray = ls at hl ⊢
  have hl : lv_has ls 7 [(0, .ref lw), (1, .ref r), (2, .int (nI i0)), (3, .ref r), (4, .int (nI i1)), (5, .ref dr), (6, .int (nI i2))] := hl
  refine lv_aload_n hx hb dX4_setTriangle_0 rfl (lv_at hl 0 rfl) ?_
  refine va_get (D := (dC, dI)) (ci := 3) (v := .ref tg) (C := RX4) (T := TX4) (N := 6) hx hb hts inX4 hown hK hP 0 rfl rfl 1 (by decide) (hts _ mw_221) (fun _ h9 => h9) rfl dX4_setTriangle_1 ?_
  refine lv_iconst (v := 1) hx hb dX4_setTriangle_4 (by decide) ?_
  have hPc := hP.sub (ws' := [(oc6 tg (.ref tx) (.ref ty) (nI nt) rt), (oa tx cI 3 TX), (oa ty cI 3 TY)]) [1, 2, 3] rfl
  have hDc := hD.sub (ws' := [(oc6 tg (.ref tx) (.ref ty) (nI nt) rt), (oa tx cI 3 TX), (oa ty cI 3 TY)]) [1, 2, 3] (by decide) rfl
  have hFc := va_free (wc := [(oc6 tg (.ref tx) (.ref ty) (nI nt) rt), (oa tx cI 3 TX), (oa ty cI 3 TY)]) hD hS hA [1, 2, 3] rfl
  refine zcall (st1 := []) (va_runV (As := [.int 1]) (rest := []) ⟨hx, hb, hml, hown, hts⟩ (k_Row_clear l dC dI cI cZ cF s.heap.size tg tx ty nt 3 TX TY rt 1 (Or.inr rfl)) (cwV 1 hts (zz_gV mw_698 mw_600 mw_601 mw_102 mc_yX7_clear) rfl rfl rfl (by decide +kernel) ⟨Nat.le_of_ble_eq_true rfl, Nat.le_of_ble_eq_true rfl⟩) (zPV2 (q0 := 0) (ci := 6) hPc hDc hK hXN rfl rfl) rfl rfl hl.1 rfl (lv_room (Nat.le_of_ble_eq_true rfl)) dX4_setTriangle_5 ⟨Nat.le_of_ble_eq_true rfl, Nat.le_of_ble_eq_true rfl⟩) hS hFc hFc rfl (fun t H1 locs ht hB hk1 hS => ?_)
  obtain ⟨hP1, hD1⟩ := hB
  rw [ht] at hP1
  obtain ⟨hP, hD⟩ := va_join (wr := [(oc3 lw (.ref dr) (.ref tg) (.ref wy) (.ref br) (.ref bo) (.ref aa)), (oc6 r (.ref rx) (.ref ry) (nI n) rg), (oa rx cI cap X), (oa ry cI cap Y), (oc6 dr (.ref dx) (.ref dy) (nI nd) rd), (oa dx cI cd P), (oa dy cI cd Q)]) (w1 := [(oc6 tg (.ref tx) (.ref ty) (nI 0) 1), (oa tx cI 3 TX), (oa ty cI 3 TY)]) hP hD [1, 2, 3] [0, 4, 5, 6, 7, 8, 9] rfl rfl (by decide) (by decide) hk1 hFc hP1 hD1
  clear hk1 hPc hDc hFc hP1 hD1 ht
  generalize H1 = H at hP hS ⊢
  have hP := hP.sub (ws' := [(oc3 lw (.ref dr) (.ref tg) (.ref wy) (.ref br) (.ref bo) (.ref aa)), (oc6 tg (.ref tx) (.ref ty) (nI 0) 1), (oa tx cI 3 TX), (oa ty cI 3 TY), (oc6 r (.ref rx) (.ref ry) (nI n) rg), (oa rx cI cap X), (oa ry cI cap Y), (oc6 dr (.ref dx) (.ref dy) (nI nd) rd), (oa dx cI cd P), (oa dy cI cd Q)]) [0, 7, 8, 9, 1, 2, 3, 4, 5, 6] rfl
  have hD := hD.sub (ws' := [(oc3 lw (.ref dr) (.ref tg) (.ref wy) (.ref br) (.ref bo) (.ref aa)), (oc6 tg (.ref tx) (.ref ty) (nI 0) 1), (oa tx cI 3 TX), (oa ty cI 3 TY), (oc6 r (.ref rx) (.ref ry) (nI n) rg), (oa rx cI cap X), (oa ry cI cap Y), (oc6 dr (.ref dx) (.ref dy) (nI nd) rd), (oa dx cI cd P), (oa dy cI cd Q)]) [0, 7, 8, 9, 1, 2, 3, 4, 5, 6] (by decide) rfl
  have hP : va_P (dC, dI) classes [(oc3 lw (.ref dr) (.ref tg) (.ref wy) (.ref br) (.ref bo) (.ref aa)), (oc6 tg (.ref tx) (.ref ty) (nI 0) 1), (oa tx cI 3 TX), (oa ty cI 3 TY), (oc6 r (.ref rx) (.ref ry) (nI n) rg), (oa rx cI cap X), (oa ry cI cap Y), (oc6 dr (.ref dx) (.ref dy) (nI nd) rd), (oa dx cI cd P), (oa dy cI cd Q)] H := hP
  have hD : va_D A [(oc3 lw (.ref dr) (.ref tg) (.ref wy) (.ref br) (.ref bo) (.ref aa)), (oc6 tg (.ref tx) (.ref ty) (nI 0) 1), (oa tx cI 3 TX), (oa ty cI 3 TY), (oc6 r (.ref rx) (.ref ry) (nI n) rg), (oa rx cI cap X), (oa ry cI cap Y), (oc6 dr (.ref dx) (.ref dy) (nI nd) rd), (oa dx cI cd P), (oa dy cI cd Q)] := hD
  refine lv_aload_n hx hb dX4_setTriangle_8 rfl (lv_at hl 0 rfl) ?_
  refine va_get (D := (dC, dI)) (ci := 3) (v := .ref tg) (C := RX4) (T := TX4) (N := 6) hx hb hts inX4 hown hK hP 0 rfl rfl 1 (by decide) (hts _ mw_221) (fun _ h9 => h9) rfl dX4_setTriangle_9 ?_
  refine lv_aload_n hx hb dX4_setTriangle_12 rfl (lv_at hl 1 rfl) ?_
  refine va_get (D := (dC, dI)) (ci := 6) (v := .ref rx) (C := RX7) (T := TX7) (N := 4) hx hb hts inX7 hown hK hP 4 rfl rfl 0 (by decide) (hts _ mw_163) (fun _ h9 => h9) rfl dX4_setTriangle_13 ?_
  refine lv_iload_n hx hb dX4_setTriangle_16 rfl (lv_at hl 2 rfl) ?_
  refine z_iald hx hb hK hP 5 0 rfl rfl (e := i0) rfl (by omega) (by omega) dX4_setTriangle_17 ?_
  refine lv_aload_n hx hb dX4_setTriangle_18 rfl (lv_at hl 1 rfl) ?_
  refine va_get (D := (dC, dI)) (ci := 6) (v := .ref ry) (C := RX7) (T := TX7) (N := 4) hx hb hts inX7 hown hK hP 4 rfl rfl 1 (by decide) (hts _ mw_170) (fun _ h9 => h9) rfl dX4_setTriangle_19 ?_
  refine lv_iload_n hx hb dX4_setTriangle_22 rfl (lv_at hl 2 rfl) ?_
  refine z_iald hx hb hK hP 6 0 rfl rfl (e := i0) rfl (by omega) (by omega) dX4_setTriangle_23 ?_
  have hPc := hP.sub (ws' := [(oc6 tg (.ref tx) (.ref ty) (nI 0) 1), (oa tx cI 3 TX), (oa ty cI 3 TY)]) [1, 2, 3] rfl
  have hDc := hD.sub (ws' := [(oc6 tg (.ref tx) (.ref ty) (nI 0) 1), (oa tx cI 3 TX), (oa ty cI 3 TY)]) [1, 2, 3] (by decide) rfl
  have hFc := va_free (wc := [(oc6 tg (.ref tx) (.ref ty) (nI 0) 1), (oa tx cI 3 TX), (oa ty cI 3 TY)]) hD hS hA [1, 2, 3] rfl
  refine zcall (st1 := []) (va_runV (As := [.int (X i0), .int (Y i0)]) (rest := []) ⟨hx, hb, hml, hown, hts⟩ (k_Row_put l dC dI cI cZ cF H.size tg tx ty 0 3 TX TY 1 (X i0) (Y i0) (by omega) (by omega)) (cwV 2 hts (zz_gV mw_699 mw_506 mw_507 mw_102 mc_yX7_put) rfl rfl rfl (by decide +kernel) ⟨Nat.le_of_ble_eq_true rfl, Nat.le_of_ble_eq_true rfl⟩) (zPV2 (q0 := 0) (ci := 6) hPc hDc hK hXN rfl rfl) rfl rfl hl.1 rfl (lv_room (Nat.le_of_ble_eq_true rfl)) dX4_setTriangle_24 ⟨Nat.le_of_ble_eq_true rfl, Nat.le_of_ble_eq_true rfl⟩) hS hFc hFc rfl (fun t H1 locs ht hB hk1 hS => ?_)
  obtain ⟨hP1, hD1⟩ := hB
  rw [ht] at hP1
  obtain ⟨hP, hD⟩ := va_join (wr := [(oc3 lw (.ref dr) (.ref tg) (.ref wy) (.ref br) (.ref bo) (.ref aa)), (oc6 r (.ref rx) (.ref ry) (nI n) rg), (oa rx cI cap X), (oa ry cI cap Y), (oc6 dr (.ref dx) (.ref dy) (nI nd) rd), (oa dx cI cd P), (oa dy cI cd Q)]) (w1 := [(oc6 tg (.ref tx) (.ref ty) (nI (0 + 1)) 1), (oa tx cI 3 (upd TX 0 (X i0))), (oa ty cI 3 (upd TY 0 (Y i0)))]) hP hD [1, 2, 3] [0, 4, 5, 6, 7, 8, 9] rfl rfl (by decide) (by decide) hk1 hFc hP1 hD1
  clear hk1 hPc hDc hFc hP1 hD1 ht
  generalize H1 = H at hP hS ⊢
  have hP := hP.sub (ws' := [(oc3 lw (.ref dr) (.ref tg) (.ref wy) (.ref br) (.ref bo) (.ref aa)), (oc6 tg (.ref tx) (.ref ty) (nI (0 + 1)) 1), (oa tx cI 3 (upd TX 0 (X i0))), (oa ty cI 3 (upd TY 0 (Y i0))), (oc6 r (.ref rx) (.ref ry) (nI n) rg), (oa rx cI cap X), (oa ry cI cap Y), (oc6 dr (.ref dx) (.ref dy) (nI nd) rd), (oa dx cI cd P), (oa dy cI cd Q)]) [0, 7, 8, 9, 1, 2, 3, 4, 5, 6] rfl
  have hD := hD.sub (ws' := [(oc3 lw (.ref dr) (.ref tg) (.ref wy) (.ref br) (.ref bo) (.ref aa)), (oc6 tg (.ref tx) (.ref ty) (nI (0 + 1)) 1), (oa tx cI 3 (upd TX 0 (X i0))), (oa ty cI 3 (upd TY 0 (Y i0))), (oc6 r (.ref rx) (.ref ry) (nI n) rg), (oa rx cI cap X), (oa ry cI cap Y), (oc6 dr (.ref dx) (.ref dy) (nI nd) rd), (oa dx cI cd P), (oa dy cI cd Q)]) [0, 7, 8, 9, 1, 2, 3, 4, 5, 6] (by decide) rfl
  have hP : va_P (dC, dI) classes [(oc3 lw (.ref dr) (.ref tg) (.ref wy) (.ref br) (.ref bo) (.ref aa)), (oc6 tg (.ref tx) (.ref ty) (nI (0 + 1)) 1), (oa tx cI 3 (upd TX 0 (X i0))), (oa ty cI 3 (upd TY 0 (Y i0))), (oc6 r (.ref rx) (.ref ry) (nI n) rg), (oa rx cI cap X), (oa ry cI cap Y), (oc6 dr (.ref dx) (.ref dy) (nI nd) rd), (oa dx cI cd P), (oa dy cI cd Q)] H := hP
  have hD : va_D A [(oc3 lw (.ref dr) (.ref tg) (.ref wy) (.ref br) (.ref bo) (.ref aa)), (oc6 tg (.ref tx) (.ref ty) (nI (0 + 1)) 1), (oa tx cI 3 (upd TX 0 (X i0))), (oa ty cI 3 (upd TY 0 (Y i0))), (oc6 r (.ref rx) (.ref ry) (nI n) rg), (oa rx cI cap X), (oa ry cI cap Y), (oc6 dr (.ref dx) (.ref dy) (nI nd) rd), (oa dx cI cd P), (oa dy cI cd Q)] := hD
  refine lv_aload_n hx hb dX4_setTriangle_27 rfl (lv_at hl 0 rfl) ?_
  refine va_get (D := (dC, dI)) (ci := 3) (v := .ref tg) (C := RX4) (T := TX4) (N := 6) hx hb hts inX4 hown hK hP 0 rfl rfl 1 (by decide) (hts _ mw_221) (fun _ h9 => h9) rfl dX4_setTriangle_28 ?_
  refine lv_aload_n hx hb dX4_setTriangle_31 rfl (lv_at hl 3 rfl) ?_
  refine va_get (D := (dC, dI)) (ci := 6) (v := .ref rx) (C := RX7) (T := TX7) (N := 4) hx hb hts inX7 hown hK hP 4 rfl rfl 0 (by decide) (hts _ mw_163) (fun _ h9 => h9) rfl dX4_setTriangle_32 ?_
  refine lv_iload hx hb dX4_setTriangle_35 (lv_at hl 4 rfl) ?_
  refine z_iald hx hb hK hP 5 0 rfl rfl (e := i1) rfl (by omega) (by omega) dX4_setTriangle_37 ?_
  refine lv_aload_n hx hb dX4_setTriangle_38 rfl (lv_at hl 3 rfl) ?_
  refine va_get (D := (dC, dI)) (ci := 6) (v := .ref ry) (C := RX7) (T := TX7) (N := 4) hx hb hts inX7 hown hK hP 4 rfl rfl 1 (by decide) (hts _ mw_170) (fun _ h9 => h9) rfl dX4_setTriangle_39 ?_
  refine lv_iload hx hb dX4_setTriangle_42 (lv_at hl 4 rfl) ?_
  refine z_iald hx hb hK hP 6 0 rfl rfl (e := i1) rfl (by omega) (by omega) dX4_setTriangle_44 ?_
  have hPc := hP.sub (ws' := [(oc6 tg (.ref tx) (.ref ty) (nI (0 + 1)) 1), (oa tx cI 3 (upd TX 0 (X i0))), (oa ty cI 3 (upd TY 0 (Y i0)))]) [1, 2, 3] rfl
  have hDc := hD.sub (ws' := [(oc6 tg (.ref tx) (.ref ty) (nI (0 + 1)) 1), (oa tx cI 3 (upd TX 0 (X i0))), (oa ty cI 3 (upd TY 0 (Y i0)))]) [1, 2, 3] (by decide) rfl
  have hFc := va_free (wc := [(oc6 tg (.ref tx) (.ref ty) (nI (0 + 1)) 1), (oa tx cI 3 (upd TX 0 (X i0))), (oa ty cI 3 (upd TY 0 (Y i0)))]) hD hS hA [1, 2, 3] rfl
  refine zcall (st1 := []) (va_runV (As := [.int (X i1), .int (Y i1)]) (rest := []) ⟨hx, hb, hml, hown, hts⟩ (k_Row_put l dC dI cI cZ cF H.size tg tx ty (0 + 1) 3 (upd TX 0 (X i0)) (upd TY 0 (Y i0)) 1 (X i1) (Y i1) (by omega) (by omega)) (cwV 2 hts (zz_gV mw_699 mw_506 mw_507 mw_102 mc_yX7_put) rfl rfl rfl (by decide +kernel) ⟨Nat.le_of_ble_eq_true rfl, Nat.le_of_ble_eq_true rfl⟩) (zPV2 (q0 := 0) (ci := 6) hPc hDc hK hXN rfl rfl) rfl rfl hl.1 rfl (lv_room (Nat.le_of_ble_eq_true rfl)) dX4_setTriangle_45 ⟨Nat.le_of_ble_eq_true rfl, Nat.le_of_ble_eq_true rfl⟩) hS hFc hFc rfl (fun t H1 locs ht hB hk1 hS => ?_)
  obtain ⟨hP1, hD1⟩ := hB
  rw [ht] at hP1
  obtain ⟨hP, hD⟩ := va_join (wr := [(oc3 lw (.ref dr) (.ref tg) (.ref wy) (.ref br) (.ref bo) (.ref aa)), (oc6 r (.ref rx) (.ref ry) (nI n) rg), (oa rx cI cap X), (oa ry cI cap Y), (oc6 dr (.ref dx) (.ref dy) (nI nd) rd), (oa dx cI cd P), (oa dy cI cd Q)]) (w1 := [(oc6 tg (.ref tx) (.ref ty) (nI ((0 + 1) + 1)) 1), (oa tx cI 3 (upd (upd TX 0 (X i0)) (0 + 1) (X i1))), (oa ty cI 3 (upd (upd TY 0 (Y i0)) (0 + 1) (Y i1)))]) hP hD [1, 2, 3] [0, 4, 5, 6, 7, 8, 9] rfl rfl (by decide) (by decide) hk1 hFc hP1 hD1
  clear hk1 hPc hDc hFc hP1 hD1 ht
  generalize H1 = H at hP hS ⊢
  have hP := hP.sub (ws' := [(oc3 lw (.ref dr) (.ref tg) (.ref wy) (.ref br) (.ref bo) (.ref aa)), (oc6 tg (.ref tx) (.ref ty) (nI ((0 + 1) + 1)) 1), (oa tx cI 3 (upd (upd TX 0 (X i0)) (0 + 1) (X i1))), (oa ty cI 3 (upd (upd TY 0 (Y i0)) (0 + 1) (Y i1))), (oc6 r (.ref rx) (.ref ry) (nI n) rg), (oa rx cI cap X), (oa ry cI cap Y), (oc6 dr (.ref dx) (.ref dy) (nI nd) rd), (oa dx cI cd P), (oa dy cI cd Q)]) [0, 7, 8, 9, 1, 2, 3, 4, 5, 6] rfl
  have hD := hD.sub (ws' := [(oc3 lw (.ref dr) (.ref tg) (.ref wy) (.ref br) (.ref bo) (.ref aa)), (oc6 tg (.ref tx) (.ref ty) (nI ((0 + 1) + 1)) 1), (oa tx cI 3 (upd (upd TX 0 (X i0)) (0 + 1) (X i1))), (oa ty cI 3 (upd (upd TY 0 (Y i0)) (0 + 1) (Y i1))), (oc6 r (.ref rx) (.ref ry) (nI n) rg), (oa rx cI cap X), (oa ry cI cap Y), (oc6 dr (.ref dx) (.ref dy) (nI nd) rd), (oa dx cI cd P), (oa dy cI cd Q)]) [0, 7, 8, 9, 1, 2, 3, 4, 5, 6] (by decide) rfl
  have hP : va_P (dC, dI) classes [(oc3 lw (.ref dr) (.ref tg) (.ref wy) (.ref br) (.ref bo) (.ref aa)), (oc6 tg (.ref tx) (.ref ty) (nI ((0 + 1) + 1)) 1), (oa tx cI 3 (upd (upd TX 0 (X i0)) (0 + 1) (X i1))), (oa ty cI 3 (upd (upd TY 0 (Y i0)) (0 + 1) (Y i1))), (oc6 r (.ref rx) (.ref ry) (nI n) rg), (oa rx cI cap X), (oa ry cI cap Y), (oc6 dr (.ref dx) (.ref dy) (nI nd) rd), (oa dx cI cd P), (oa dy cI cd Q)] H := hP
  have hD : va_D A [(oc3 lw (.ref dr) (.ref tg) (.ref wy) (.ref br) (.ref bo) (.ref aa)), (oc6 tg (.ref tx) (.ref ty) (nI ((0 + 1) + 1)) 1), (oa tx cI 3 (upd (upd TX 0 (X i0)) (0 + 1) (X i1))), (oa ty cI 3 (upd (upd TY 0 (Y i0)) (0 + 1) (Y i1))), (oc6 r (.ref rx) (.ref ry) (nI n) rg), (oa rx cI cap X), (oa ry cI cap Y), (oc6 dr (.ref dx) (.ref dy) (nI nd) rd), (oa dx cI cd P), (oa dy cI cd Q)] := hD
  refine lv_aload_n hx hb dX4_setTriangle_48 rfl (lv_at hl 0 rfl) ?_
  refine va_get (D := (dC, dI)) (ci := 3) (v := .ref tg) (C := RX4) (T := TX4) (N := 6) hx hb hts inX4 hown hK hP 0 rfl rfl 1 (by decide) (hts _ mw_221) (fun _ h9 => h9) rfl dX4_setTriangle_49 ?_
  refine lv_aload hx hb dX4_setTriangle_52 (lv_at hl 5 rfl) ?_
  refine va_get (D := (dC, dI)) (ci := 6) (v := .ref dx) (C := RX7) (T := TX7) (N := 4) hx hb hts inX7 hown hK hP 7 rfl rfl 0 (by decide) (hts _ mw_163) (fun _ h9 => h9) rfl dX4_setTriangle_54 ?_
  refine lv_iload hx hb dX4_setTriangle_57 (lv_at hl 6 rfl) ?_
  refine z_iald hx hb hK hP 8 0 rfl rfl (e := i2) rfl (by omega) (by omega) dX4_setTriangle_59 ?_
  refine lv_aload hx hb dX4_setTriangle_60 (lv_at hl 5 rfl) ?_
  refine va_get (D := (dC, dI)) (ci := 6) (v := .ref dy) (C := RX7) (T := TX7) (N := 4) hx hb hts inX7 hown hK hP 7 rfl rfl 1 (by decide) (hts _ mw_170) (fun _ h9 => h9) rfl dX4_setTriangle_62 ?_
  refine lv_iload hx hb dX4_setTriangle_65 (lv_at hl 6 rfl) ?_
  refine z_iald hx hb hK hP 9 0 rfl rfl (e := i2) rfl (by omega) (by omega) dX4_setTriangle_67 ?_
  have hPc := hP.sub (ws' := [(oc6 tg (.ref tx) (.ref ty) (nI ((0 + 1) + 1)) 1), (oa tx cI 3 (upd (upd TX 0 (X i0)) (0 + 1) (X i1))), (oa ty cI 3 (upd (upd TY 0 (Y i0)) (0 + 1) (Y i1)))]) [1, 2, 3] rfl
  have hDc := hD.sub (ws' := [(oc6 tg (.ref tx) (.ref ty) (nI ((0 + 1) + 1)) 1), (oa tx cI 3 (upd (upd TX 0 (X i0)) (0 + 1) (X i1))), (oa ty cI 3 (upd (upd TY 0 (Y i0)) (0 + 1) (Y i1)))]) [1, 2, 3] (by decide) rfl
  have hFc := va_free (wc := [(oc6 tg (.ref tx) (.ref ty) (nI ((0 + 1) + 1)) 1), (oa tx cI 3 (upd (upd TX 0 (X i0)) (0 + 1) (X i1))), (oa ty cI 3 (upd (upd TY 0 (Y i0)) (0 + 1) (Y i1)))]) hD hS hA [1, 2, 3] rfl
  refine zcall (st1 := []) (va_runV (As := [.int (P i2), .int (Q i2)]) (rest := []) ⟨hx, hb, hml, hown, hts⟩ (k_Row_put l dC dI cI cZ cF H.size tg tx ty ((0 + 1) + 1) 3 (upd (upd TX 0 (X i0)) (0 + 1) (X i1)) (upd (upd TY 0 (Y i0)) (0 + 1) (Y i1)) 1 (P i2) (Q i2) (by omega) (by omega)) (cwV 2 hts (zz_gV mw_699 mw_506 mw_507 mw_102 mc_yX7_put) rfl rfl rfl (by decide +kernel) ⟨Nat.le_of_ble_eq_true rfl, Nat.le_of_ble_eq_true rfl⟩) (zPV2 (q0 := 0) (ci := 6) hPc hDc hK hXN rfl rfl) rfl rfl hl.1 rfl (lv_room (Nat.le_of_ble_eq_true rfl)) dX4_setTriangle_68 ⟨Nat.le_of_ble_eq_true rfl, Nat.le_of_ble_eq_true rfl⟩) hS hFc hFc rfl (fun t H1 locs ht hB hk1 hS => ?_)
  obtain ⟨hP1, hD1⟩ := hB
  rw [ht] at hP1
  obtain ⟨hP, hD⟩ := va_join (wr := [(oc3 lw (.ref dr) (.ref tg) (.ref wy) (.ref br) (.ref bo) (.ref aa)), (oc6 r (.ref rx) (.ref ry) (nI n) rg), (oa rx cI cap X), (oa ry cI cap Y), (oc6 dr (.ref dx) (.ref dy) (nI nd) rd), (oa dx cI cd P), (oa dy cI cd Q)]) (w1 := [(oc6 tg (.ref tx) (.ref ty) (nI (((0 + 1) + 1) + 1)) 1), (oa tx cI 3 (upd (upd (upd TX 0 (X i0)) (0 + 1) (X i1)) ((0 + 1) + 1) (P i2))), (oa ty cI 3 (upd (upd (upd TY 0 (Y i0)) (0 + 1) (Y i1)) ((0 + 1) + 1) (Q i2)))]) hP hD [1, 2, 3] [0, 4, 5, 6, 7, 8, 9] rfl rfl (by decide) (by decide) hk1 hFc hP1 hD1
  clear hk1 hPc hDc hFc hP1 hD1 ht
  generalize H1 = H at hP hS ⊢
  have hP := hP.sub (ws' := [(oc3 lw (.ref dr) (.ref tg) (.ref wy) (.ref br) (.ref bo) (.ref aa)), (oc6 tg (.ref tx) (.ref ty) (nI (((0 + 1) + 1) + 1)) 1), (oa tx cI 3 (upd (upd (upd TX 0 (X i0)) (0 + 1) (X i1)) ((0 + 1) + 1) (P i2))), (oa ty cI 3 (upd (upd (upd TY 0 (Y i0)) (0 + 1) (Y i1)) ((0 + 1) + 1) (Q i2))), (oc6 r (.ref rx) (.ref ry) (nI n) rg), (oa rx cI cap X), (oa ry cI cap Y), (oc6 dr (.ref dx) (.ref dy) (nI nd) rd), (oa dx cI cd P), (oa dy cI cd Q)]) [0, 7, 8, 9, 1, 2, 3, 4, 5, 6] rfl
  have hD := hD.sub (ws' := [(oc3 lw (.ref dr) (.ref tg) (.ref wy) (.ref br) (.ref bo) (.ref aa)), (oc6 tg (.ref tx) (.ref ty) (nI (((0 + 1) + 1) + 1)) 1), (oa tx cI 3 (upd (upd (upd TX 0 (X i0)) (0 + 1) (X i1)) ((0 + 1) + 1) (P i2))), (oa ty cI 3 (upd (upd (upd TY 0 (Y i0)) (0 + 1) (Y i1)) ((0 + 1) + 1) (Q i2))), (oc6 r (.ref rx) (.ref ry) (nI n) rg), (oa rx cI cap X), (oa ry cI cap Y), (oc6 dr (.ref dx) (.ref dy) (nI nd) rd), (oa dx cI cd P), (oa dy cI cd Q)]) [0, 7, 8, 9, 1, 2, 3, 4, 5, 6] (by decide) rfl
  have hP : va_P (dC, dI) classes [(oc3 lw (.ref dr) (.ref tg) (.ref wy) (.ref br) (.ref bo) (.ref aa)), (oc6 tg (.ref tx) (.ref ty) (nI (((0 + 1) + 1) + 1)) 1), (oa tx cI 3 (upd (upd (upd TX 0 (X i0)) (0 + 1) (X i1)) ((0 + 1) + 1) (P i2))), (oa ty cI 3 (upd (upd (upd TY 0 (Y i0)) (0 + 1) (Y i1)) ((0 + 1) + 1) (Q i2))), (oc6 r (.ref rx) (.ref ry) (nI n) rg), (oa rx cI cap X), (oa ry cI cap Y), (oc6 dr (.ref dx) (.ref dy) (nI nd) rd), (oa dx cI cd P), (oa dy cI cd Q)] H := hP
  have hD : va_D A [(oc3 lw (.ref dr) (.ref tg) (.ref wy) (.ref br) (.ref bo) (.ref aa)), (oc6 tg (.ref tx) (.ref ty) (nI (((0 + 1) + 1) + 1)) 1), (oa tx cI 3 (upd (upd (upd TX 0 (X i0)) (0 + 1) (X i1)) ((0 + 1) + 1) (P i2))), (oa ty cI 3 (upd (upd (upd TY 0 (Y i0)) (0 + 1) (Y i1)) ((0 + 1) + 1) (Q i2))), (oc6 r (.ref rx) (.ref ry) (nI n) rg), (oa rx cI cap X), (oa ry cI cap Y), (oc6 dr (.ref dx) (.ref dy) (nI nd) rd), (oa dx cI cd P), (oa dy cI cd Q)] := hD
  have hP9 := hP.sub (ws' := [(oc3 lw (.ref dr) (.ref tg) (.ref wy) (.ref br) (.ref bo) (.ref aa)), (oc6 tg (.ref tx) (.ref ty) (nI (((0 + 1) + 1) + 1)) 1), (oa tx cI 3 (upd (upd (upd TX 0 (X i0)) (0 + 1) (X i1)) ((0 + 1) + 1) (P i2))), (oa ty cI 3 (upd (upd (upd TY 0 (Y i0)) (0 + 1) (Y i1)) ((0 + 1) + 1) (Q i2))), (oc6 r (.ref rx) (.ref ry) (nI n) rg), (oa rx cI cap X), (oa ry cI cap Y), (oc6 dr (.ref dx) (.ref dy) (nI nd) rd), (oa dx cI cd P), (oa dy cI cd Q)]) [0, 1, 2, 3, 4, 5, 6, 7, 8, 9] rfl
  have hD9 := hD.sub (ws' := [(oc3 lw (.ref dr) (.ref tg) (.ref wy) (.ref br) (.ref bo) (.ref aa)), (oc6 tg (.ref tx) (.ref ty) (nI (((0 + 1) + 1) + 1)) 1), (oa tx cI 3 (upd (upd (upd TX 0 (X i0)) (0 + 1) (X i1)) ((0 + 1) + 1) (P i2))), (oa ty cI 3 (upd (upd (upd TY 0 (Y i0)) (0 + 1) (Y i1)) ((0 + 1) + 1) (Q i2))), (oc6 r (.ref rx) (.ref ry) (nI n) rg), (oa rx cI cap X), (oa ry cI cap Y), (oc6 dr (.ref dx) (.ref dy) (nI nd) rd), (oa dx cI cd P), (oa dy cI cd Q)]) [0, 1, 2, 3, 4, 5, 6, 7, 8, 9] (by decide) rfl
  have hE9 : ([(oc3 lw (.ref dr) (.ref tg) (.ref wy) (.ref br) (.ref bo) (.ref aa)), (oc6 tg (.ref tx) (.ref ty) (nI (((0 + 1) + 1) + 1)) 1), (oa tx cI 3 (upd (upd (upd TX 0 (X i0)) (0 + 1) (X i1)) ((0 + 1) + 1) (P i2))), (oa ty cI 3 (upd (upd (upd TY 0 (Y i0)) (0 + 1) (Y i1)) ((0 + 1) + 1) (Q i2))), (oc6 r (.ref rx) (.ref ry) (nI n) rg), (oa rx cI cap X), (oa ry cI cap Y), (oc6 dr (.ref dx) (.ref dy) (nI nd) rd), (oa dx cI cd P), (oa dy cI cd Q)] : va_W) = [(oc3 lw (.ref dr) (.ref tg) (.ref wy) (.ref br) (.ref bo) (.ref aa)), (oc6 tg (.ref tx) (.ref ty) (nI 3) 1), (oa tx cI 3 (upd (upd (upd TX 0 (X i0)) 1 (X i1)) 2 (P i2))), (oa ty cI 3 (upd (upd (upd TY 0 (Y i0)) 1 (Y i1)) 2 (Q i2))), (oc6 r (.ref rx) (.ref ry) (nI n) rg), (oa rx cI cap X), (oa ry cI cap Y), (oc6 dr (.ref dx) (.ref dy) (nI nd) rd), (oa dx cI cd P), (oa dy cI cd Q)] := by rfl
  rw [hE9] at hP9 hD9
  rw [hQ9]
  exact W.vret hx hb hr (fun t ht hW => ⟨⟨rfl, by rw [ht]; exact hP9, hD9⟩, hS.F ht⟩) hS.2.2 dX4_setTriangle_71
set_option maxHeartbeats 4000000 in
set_option maxRecDepth 100000 in
theorem k_Law_setTriangle_odd (l : Launch) (dC : Nat → ClassId) (dI : Nat → Nat → Nat) (cI cZ cF : ClassId) (sz : Nat) (lw : Nat) (dr : Nat) (tg : Nat) (wy : Nat) (br : Nat) (bo : Nat) (aa : Nat) (tx : Nat) (ty : Nat) (nt : Nat) (TX : Nat → Int32) (TY : Nat → Int32) (rt : Int32) (r : Nat) (rx : Nat) (ry : Nat) (n : Nat) (cap : Nat) (X : Nat → Int32) (Y : Nat → Int32) (rg : Int32) (dx : Nat) (dy : Nat) (nd : Nat) (cd : Nat) (P : Nat → Int32) (Q : Nat → Int32) (rd : Int32) (i0 : Nat) (i1 : Nat) (i2 : Nat) (hn : n ≤ cap) (hcap : cap ≤ 1000) (hnd : nd ≤ cd) (hcd : cd ≤ 1000) (hi0 : i0 < n) (hi1 : i1 < nd) (hi2 : i2 < nd) : Met l yX4_setTriangle (.code yX4_setTriangle cX4_setTriangle 7 none :: ws0) ({ frames := 1, cells := 0, slots := 0, locals := 22 } : Room) (va_Pc [.ref lw, .ref r, .int (nI i0), .ref dr, .int (nI i1), .ref dr, .int (nI i2)] (zPre (dC, dI) classes (zTy cI cZ cF) [(oc3 lw (.ref dr) (.ref tg) (.ref wy) (.ref br) (.ref bo) (.ref aa)), (oc6 tg (.ref tx) (.ref ty) (nI nt) rt), (oa tx cI 3 TX), (oa ty cI 3 TY), (oc6 r (.ref rx) (.ref ry) (nI n) rg), (oa rx cI cap X), (oa ry cI cap Y), (oc6 dr (.ref dx) (.ref dy) (nI nd) rd), (oa dx cI cd P), (oa dy cI cd Q)] sz zXN)) (zQ none (fun t => va_P (dC, dI) classes [(oc3 lw (.ref dr) (.ref tg) (.ref wy) (.ref br) (.ref bo) (.ref aa)), (oc6 tg (.ref tx) (.ref ty) (nI 3) 1), (oa tx cI 3 (upd (upd (upd TX 0 (X i0)) 1 (P i1)) 2 (P i2))), (oa ty cI 3 (upd (upd (upd TY 0 (Y i0)) 1 (Q i1)) 2 (Q i2))), (oc6 r (.ref rx) (.ref ry) (nI n) rg), (oa rx cI cap X), (oa ry cI cap Y), (oc6 dr (.ref dx) (.ref dy) (nI nd) rd), (oa dx cI cd P), (oa dy cI cd Q)] t.heap ∧ va_D (va_A [(oc3 lw (.ref dr) (.ref tg) (.ref wy) (.ref br) (.ref bo) (.ref aa)), (oc6 tg (.ref tx) (.ref ty) (nI nt) rt), (oa tx cI 3 TX), (oa ty cI 3 TY), (oc6 r (.ref rx) (.ref ry) (nI n) rg), (oa rx cI cap X), (oa ry cI cap Y), (oc6 dr (.ref dx) (.ref dy) (nI nd) rd), (oa dx cI cd P), (oa dy cI cd Q)] sz) [(oc3 lw (.ref dr) (.ref tg) (.ref wy) (.ref br) (.ref bo) (.ref aa)), (oc6 tg (.ref tx) (.ref ty) (nI 3) 1), (oa tx cI 3 (upd (upd (upd TX 0 (X i0)) 1 (P i1)) 2 (P i2))), (oa ty cI 3 (upd (upd (upd TY 0 (Y i0)) 1 (Q i1)) 2 (Q i2))), (oc6 r (.ref rx) (.ref ry) (nI n) rg), (oa rx cI cap X), (oa ry cI cap Y), (oc6 dr (.ref dx) (.ref dy) (nI nd) rd), (oa dx cI cd P), (oa dy cI cd Q)]) (va_A [(oc3 lw (.ref dr) (.ref tg) (.ref wy) (.ref br) (.ref bo) (.ref aa)), (oc6 tg (.ref tx) (.ref ty) (nI nt) rt), (oa tx cI 3 TX), (oa ty cI 3 TY), (oc6 r (.ref rx) (.ref ry) (nI n) rg), (oa rx cI cap X), (oa ry cI cap Y), (oc6 dr (.ref dx) (.ref dy) (nI nd) rd), (oa dx cI cd P), (oa dy cI cd Q)] sz)) 0 0 (va_A [(oc3 lw (.ref dr) (.ref tg) (.ref wy) (.ref br) (.ref bo) (.ref aa)), (oc6 tg (.ref tx) (.ref ty) (nI nt) rt), (oa tx cI 3 TX), (oa ty cI 3 TY), (oc6 r (.ref rx) (.ref ry) (nI n) rg), (oa rx cI cap X), (oa ry cI cap Y), (oc6 dr (.ref dx) (.ref dy) (nI nd) rd), (oa dx cI cd P), (oa dy cI cd Q)] sz) := by
  refine Met.ofW (cc := cX4_setTriangle) (maxL := 7) (ret := none) (by decide) rfl ?_
  intro p e s m args below meth c s₁ B hml hv
  obtain ⟨rfl, hsz, hP, hK, hD0, hXN⟩ := hv
  have hx := B.exec
  have hb := B.bytes
  have hr := B.returns
  have hts0 := atoms_spec (ws := .code yX4_setTriangle cX4_setTriangle 7 none :: ws0) B.pre
  have hts : ∀ w9 ∈ ws0, w9.before ([.ref lw, .ref r, .int (nI i0), .ref dr, .int (nI i1), .ref dr, .int (nI i2)] : List Value).toArray s = true := fun w9 h => hts0 w9 (List.mem_cons_of_mem _ h)
  have hown : s.vm.findClass "ScaleShop$Law" = some m.cls := findClass_of_methodNamed B.named
  have hlocks := B.notSynchronized
  subst hsz
  have hD := hD0.self (sz := s.heap.size)
  clear hD0
  generalize hAe : va_A [(oc3 lw (.ref dr) (.ref tg) (.ref wy) (.ref br) (.ref bo) (.ref aa)), (oc6 tg (.ref tx) (.ref ty) (nI nt) rt), (oa tx cI 3 TX), (oa ty cI 3 TY), (oc6 r (.ref rx) (.ref ry) (nI n) rg), (oa rx cI cap X), (oa ry cI cap Y), (oc6 dr (.ref dx) (.ref dy) (nI nd) rd), (oa dx cI cd P), (oa dy cI cd Q)] s.heap.size = A at hD ⊢
  have hA : ∀ q : Nat, s.heap.size ≤ q → A q := fun q h => by rw [← hAe]; exact Or.inr h
  clear hAe
  have hS : va_S A s.heap s.heap [] := va_S.rf
  have hP : va_P (dC, dI) classes [(oc3 lw (.ref dr) (.ref tg) (.ref wy) (.ref br) (.ref bo) (.ref aa)), (oc6 tg (.ref tx) (.ref ty) (nI nt) rt), (oa tx cI 3 TX), (oa ty cI 3 TY), (oc6 r (.ref rx) (.ref ry) (nI n) rg), (oa rx cI cap X), (oa ry cI cap Y), (oc6 dr (.ref dx) (.ref dy) (nI nd) rd), (oa dx cI cd P), (oa dy cI cd Q)] s.heap := hP
  obtain ⟨Q9, hQ9⟩ : ∃ Q9 : State → Prop, Q9 = MQ below (zQ none (fun t => va_P (dC, dI) classes [(oc3 lw (.ref dr) (.ref tg) (.ref wy) (.ref br) (.ref bo) (.ref aa)), (oc6 tg (.ref tx) (.ref ty) (nI 3) 1), (oa tx cI 3 (upd (upd (upd TX 0 (X i0)) 1 (P i1)) 2 (P i2))), (oa ty cI 3 (upd (upd (upd TY 0 (Y i0)) 1 (Q i1)) 2 (Q i2))), (oc6 r (.ref rx) (.ref ry) (nI n) rg), (oa rx cI cap X), (oa ry cI cap Y), (oc6 dr (.ref dx) (.ref dy) (nI nd) rd), (oa dx cI cd P), (oa dy cI cd Q)] t.heap ∧ va_D A [(oc3 lw (.ref dr) (.ref tg) (.ref wy) (.ref br) (.ref bo) (.ref aa)), (oc6 tg (.ref tx) (.ref ty) (nI 3) 1), (oa tx cI 3 (upd (upd (upd TX 0 (X i0)) 1 (P i1)) 2 (P i2))), (oa ty cI 3 (upd (upd (upd TY 0 (Y i0)) 1 (Q i1)) 2 (Q i2))), (oc6 r (.ref rx) (.ref ry) (nI n) rg), (oa rx cI cap X), (oa ry cI cap Y), (oc6 dr (.ref dx) (.ref dy) (nI nd) rd), (oa dx cI cd P), (oa dy cI cd Q)]) A) ([.ref lw, .ref r, .int (nI i0), .ref dr, .int (nI i1), .ref dr, .int (nI i2)] : List Value).toArray s 0 0 A := ⟨_, rfl⟩
  rw [← hQ9]
  have hl := lv_entry ([.ref lw, .ref r, .int (nI i0), .ref dr, .int (nI i1), .ref dr, .int (nI i2)]) (n := 7) (Nat.le_of_ble_eq_true rfl)
  rw [lg_entry_eq]
  generalize (lg_sl ([.ref lw, .ref r, .int (nI i0), .ref dr, .int (nI i1), .ref dr, .int (nI i2)]) ++ List.replicate (7 - (lg_sl ([.ref lw, .ref r, .int (nI i0), .ref dr, .int (nI i1), .ref dr, .int (nI i2)])).length) Slot.unset).toArray = ls at hl ⊢
  have hl : lv_has ls 7 [(0, .ref lw), (1, .ref r), (2, .int (nI i0)), (3, .ref dr), (4, .int (nI i1)), (5, .ref dr), (6, .int (nI i2))] := hl
  refine lv_aload_n hx hb dX4_setTriangle_0 rfl (lv_at hl 0 rfl) ?_
  refine va_get (D := (dC, dI)) (ci := 3) (v := .ref tg) (C := RX4) (T := TX4) (N := 6) hx hb hts inX4 hown hK hP 0 rfl rfl 1 (by decide) (hts _ mw_221) (fun _ h9 => h9) rfl dX4_setTriangle_1 ?_
  refine lv_iconst (v := 1) hx hb dX4_setTriangle_4 (by decide) ?_
  have hPc := hP.sub (ws' := [(oc6 tg (.ref tx) (.ref ty) (nI nt) rt), (oa tx cI 3 TX), (oa ty cI 3 TY)]) [1, 2, 3] rfl
  have hDc := hD.sub (ws' := [(oc6 tg (.ref tx) (.ref ty) (nI nt) rt), (oa tx cI 3 TX), (oa ty cI 3 TY)]) [1, 2, 3] (by decide) rfl
  have hFc := va_free (wc := [(oc6 tg (.ref tx) (.ref ty) (nI nt) rt), (oa tx cI 3 TX), (oa ty cI 3 TY)]) hD hS hA [1, 2, 3] rfl
  refine zcall (st1 := []) (va_runV (As := [.int 1]) (rest := []) ⟨hx, hb, hml, hown, hts⟩ (k_Row_clear l dC dI cI cZ cF s.heap.size tg tx ty nt 3 TX TY rt 1 (Or.inr rfl)) (cwV 1 hts (zz_gV mw_698 mw_600 mw_601 mw_102 mc_yX7_clear) rfl rfl rfl (by decide +kernel) ⟨Nat.le_of_ble_eq_true rfl, Nat.le_of_ble_eq_true rfl⟩) (zPV2 (q0 := 0) (ci := 6) hPc hDc hK hXN rfl rfl) rfl rfl hl.1 rfl (lv_room (Nat.le_of_ble_eq_true rfl)) dX4_setTriangle_5 ⟨Nat.le_of_ble_eq_true rfl, Nat.le_of_ble_eq_true rfl⟩) hS hFc hFc rfl (fun t H1 locs ht hB hk1 hS => ?_)
  obtain ⟨hP1, hD1⟩ := hB
  rw [ht] at hP1
  obtain ⟨hP, hD⟩ := va_join (wr := [(oc3 lw (.ref dr) (.ref tg) (.ref wy) (.ref br) (.ref bo) (.ref aa)), (oc6 r (.ref rx) (.ref ry) (nI n) rg), (oa rx cI cap X), (oa ry cI cap Y), (oc6 dr (.ref dx) (.ref dy) (nI nd) rd), (oa dx cI cd P), (oa dy cI cd Q)]) (w1 := [(oc6 tg (.ref tx) (.ref ty) (nI 0) 1), (oa tx cI 3 TX), (oa ty cI 3 TY)]) hP hD [1, 2, 3] [0, 4, 5, 6, 7, 8, 9] rfl rfl (by decide) (by decide) hk1 hFc hP1 hD1
  clear hk1 hPc hDc hFc hP1 hD1 ht
  generalize H1 = H at hP hS ⊢
  have hP := hP.sub (ws' := [(oc3 lw (.ref dr) (.ref tg) (.ref wy) (.ref br) (.ref bo) (.ref aa)), (oc6 tg (.ref tx) (.ref ty) (nI 0) 1), (oa tx cI 3 TX), (oa ty cI 3 TY), (oc6 r (.ref rx) (.ref ry) (nI n) rg), (oa rx cI cap X), (oa ry cI cap Y), (oc6 dr (.ref dx) (.ref dy) (nI nd) rd), (oa dx cI cd P), (oa dy cI cd Q)]) [0, 7, 8, 9, 1, 2, 3, 4, 5, 6] rfl
  have hD := hD.sub (ws' := [(oc3 lw (.ref dr) (.ref tg) (.ref wy) (.ref br) (.ref bo) (.ref aa)), (oc6 tg (.ref tx) (.ref ty) (nI 0) 1), (oa tx cI 3 TX), (oa ty cI 3 TY), (oc6 r (.ref rx) (.ref ry) (nI n) rg), (oa rx cI cap X), (oa ry cI cap Y), (oc6 dr (.ref dx) (.ref dy) (nI nd) rd), (oa dx cI cd P), (oa dy cI cd Q)]) [0, 7, 8, 9, 1, 2, 3, 4, 5, 6] (by decide) rfl
  have hP : va_P (dC, dI) classes [(oc3 lw (.ref dr) (.ref tg) (.ref wy) (.ref br) (.ref bo) (.ref aa)), (oc6 tg (.ref tx) (.ref ty) (nI 0) 1), (oa tx cI 3 TX), (oa ty cI 3 TY), (oc6 r (.ref rx) (.ref ry) (nI n) rg), (oa rx cI cap X), (oa ry cI cap Y), (oc6 dr (.ref dx) (.ref dy) (nI nd) rd), (oa dx cI cd P), (oa dy cI cd Q)] H := hP
  have hD : va_D A [(oc3 lw (.ref dr) (.ref tg) (.ref wy) (.ref br) (.ref bo) (.ref aa)), (oc6 tg (.ref tx) (.ref ty) (nI 0) 1), (oa tx cI 3 TX), (oa ty cI 3 TY), (oc6 r (.ref rx) (.ref ry) (nI n) rg), (oa rx cI cap X), (oa ry cI cap Y), (oc6 dr (.ref dx) (.ref dy) (nI nd) rd), (oa dx cI cd P), (oa dy cI cd Q)] := hD
  refine lv_aload_n hx hb dX4_setTriangle_8 rfl (lv_at hl 0 rfl) ?_
  refine va_get (D := (dC, dI)) (ci := 3) (v := .ref tg) (C := RX4) (T := TX4) (N := 6) hx hb hts inX4 hown hK hP 0 rfl rfl 1 (by decide) (hts _ mw_221) (fun _ h9 => h9) rfl dX4_setTriangle_9 ?_
  refine lv_aload_n hx hb dX4_setTriangle_12 rfl (lv_at hl 1 rfl) ?_
  refine va_get (D := (dC, dI)) (ci := 6) (v := .ref rx) (C := RX7) (T := TX7) (N := 4) hx hb hts inX7 hown hK hP 4 rfl rfl 0 (by decide) (hts _ mw_163) (fun _ h9 => h9) rfl dX4_setTriangle_13 ?_
  refine lv_iload_n hx hb dX4_setTriangle_16 rfl (lv_at hl 2 rfl) ?_
  refine z_iald hx hb hK hP 5 0 rfl rfl (e := i0) rfl (by omega) (by omega) dX4_setTriangle_17 ?_
  refine lv_aload_n hx hb dX4_setTriangle_18 rfl (lv_at hl 1 rfl) ?_
  refine va_get (D := (dC, dI)) (ci := 6) (v := .ref ry) (C := RX7) (T := TX7) (N := 4) hx hb hts inX7 hown hK hP 4 rfl rfl 1 (by decide) (hts _ mw_170) (fun _ h9 => h9) rfl dX4_setTriangle_19 ?_
  refine lv_iload_n hx hb dX4_setTriangle_22 rfl (lv_at hl 2 rfl) ?_
  refine z_iald hx hb hK hP 6 0 rfl rfl (e := i0) rfl (by omega) (by omega) dX4_setTriangle_23 ?_
  have hPc := hP.sub (ws' := [(oc6 tg (.ref tx) (.ref ty) (nI 0) 1), (oa tx cI 3 TX), (oa ty cI 3 TY)]) [1, 2, 3] rfl
  have hDc := hD.sub (ws' := [(oc6 tg (.ref tx) (.ref ty) (nI 0) 1), (oa tx cI 3 TX), (oa ty cI 3 TY)]) [1, 2, 3] (by decide) rfl
  have hFc := va_free (wc := [(oc6 tg (.ref tx) (.ref ty) (nI 0) 1), (oa tx cI 3 TX), (oa ty cI 3 TY)]) hD hS hA [1, 2, 3] rfl
  refine zcall (st1 := []) (va_runV (As := [.int (X i0), .int (Y i0)]) (rest := []) ⟨hx, hb, hml, hown, hts⟩ (k_Row_put l dC dI cI cZ cF H.size tg tx ty 0 3 TX TY 1 (X i0) (Y i0) (by omega) (by omega)) (cwV 2 hts (zz_gV mw_699 mw_506 mw_507 mw_102 mc_yX7_put) rfl rfl rfl (by decide +kernel) ⟨Nat.le_of_ble_eq_true rfl, Nat.le_of_ble_eq_true rfl⟩) (zPV2 (q0 := 0) (ci := 6) hPc hDc hK hXN rfl rfl) rfl rfl hl.1 rfl (lv_room (Nat.le_of_ble_eq_true rfl)) dX4_setTriangle_24 ⟨Nat.le_of_ble_eq_true rfl, Nat.le_of_ble_eq_true rfl⟩) hS hFc hFc rfl (fun t H1 locs ht hB hk1 hS => ?_)
  obtain ⟨hP1, hD1⟩ := hB
  rw [ht] at hP1
  obtain ⟨hP, hD⟩ := va_join (wr := [(oc3 lw (.ref dr) (.ref tg) (.ref wy) (.ref br) (.ref bo) (.ref aa)), (oc6 r (.ref rx) (.ref ry) (nI n) rg), (oa rx cI cap X), (oa ry cI cap Y), (oc6 dr (.ref dx) (.ref dy) (nI nd) rd), (oa dx cI cd P), (oa dy cI cd Q)]) (w1 := [(oc6 tg (.ref tx) (.ref ty) (nI (0 + 1)) 1), (oa tx cI 3 (upd TX 0 (X i0))), (oa ty cI 3 (upd TY 0 (Y i0)))]) hP hD [1, 2, 3] [0, 4, 5, 6, 7, 8, 9] rfl rfl (by decide) (by decide) hk1 hFc hP1 hD1
  clear hk1 hPc hDc hFc hP1 hD1 ht
  generalize H1 = H at hP hS ⊢
  have hP := hP.sub (ws' := [(oc3 lw (.ref dr) (.ref tg) (.ref wy) (.ref br) (.ref bo) (.ref aa)), (oc6 tg (.ref tx) (.ref ty) (nI (0 + 1)) 1), (oa tx cI 3 (upd TX 0 (X i0))), (oa ty cI 3 (upd TY 0 (Y i0))), (oc6 r (.ref rx) (.ref ry) (nI n) rg), (oa rx cI cap X), (oa ry cI cap Y), (oc6 dr (.ref dx) (.ref dy) (nI nd) rd), (oa dx cI cd P), (oa dy cI cd Q)]) [0, 7, 8, 9, 1, 2, 3, 4, 5, 6] rfl
  have hD := hD.sub (ws' := [(oc3 lw (.ref dr) (.ref tg) (.ref wy) (.ref br) (.ref bo) (.ref aa)), (oc6 tg (.ref tx) (.ref ty) (nI (0 + 1)) 1), (oa tx cI 3 (upd TX 0 (X i0))), (oa ty cI 3 (upd TY 0 (Y i0))), (oc6 r (.ref rx) (.ref ry) (nI n) rg), (oa rx cI cap X), (oa ry cI cap Y), (oc6 dr (.ref dx) (.ref dy) (nI nd) rd), (oa dx cI cd P), (oa dy cI cd Q)]) [0, 7, 8, 9, 1, 2, 3, 4, 5, 6] (by decide) rfl
  have hP : va_P (dC, dI) classes [(oc3 lw (.ref dr) (.ref tg) (.ref wy) (.ref br) (.ref bo) (.ref aa)), (oc6 tg (.ref tx) (.ref ty) (nI (0 + 1)) 1), (oa tx cI 3 (upd TX 0 (X i0))), (oa ty cI 3 (upd TY 0 (Y i0))), (oc6 r (.ref rx) (.ref ry) (nI n) rg), (oa rx cI cap X), (oa ry cI cap Y), (oc6 dr (.ref dx) (.ref dy) (nI nd) rd), (oa dx cI cd P), (oa dy cI cd Q)] H := hP
  have hD : va_D A [(oc3 lw (.ref dr) (.ref tg) (.ref wy) (.ref br) (.ref bo) (.ref aa)), (oc6 tg (.ref tx) (.ref ty) (nI (0 + 1)) 1), (oa tx cI 3 (upd TX 0 (X i0))), (oa ty cI 3 (upd TY 0 (Y i0))), (oc6 r (.ref rx) (.ref ry) (nI n) rg), (oa rx cI cap X), (oa ry cI cap Y), (oc6 dr (.ref dx) (.ref dy) (nI nd) rd), (oa dx cI cd P), (oa dy cI cd Q)] := hD
  refine lv_aload_n hx hb dX4_setTriangle_27 rfl (lv_at hl 0 rfl) ?_
  refine va_get (D := (dC, dI)) (ci := 3) (v := .ref tg) (C := RX4) (T := TX4) (N := 6) hx hb hts inX4 hown hK hP 0 rfl rfl 1 (by decide) (hts _ mw_221) (fun _ h9 => h9) rfl dX4_setTriangle_28 ?_
  refine lv_aload_n hx hb dX4_setTriangle_31 rfl (lv_at hl 3 rfl) ?_
  refine va_get (D := (dC, dI)) (ci := 6) (v := .ref dx) (C := RX7) (T := TX7) (N := 4) hx hb hts inX7 hown hK hP 7 rfl rfl 0 (by decide) (hts _ mw_163) (fun _ h9 => h9) rfl dX4_setTriangle_32 ?_
  refine lv_iload hx hb dX4_setTriangle_35 (lv_at hl 4 rfl) ?_
  refine z_iald hx hb hK hP 8 0 rfl rfl (e := i1) rfl (by omega) (by omega) dX4_setTriangle_37 ?_
  refine lv_aload_n hx hb dX4_setTriangle_38 rfl (lv_at hl 3 rfl) ?_
  refine va_get (D := (dC, dI)) (ci := 6) (v := .ref dy) (C := RX7) (T := TX7) (N := 4) hx hb hts inX7 hown hK hP 7 rfl rfl 1 (by decide) (hts _ mw_170) (fun _ h9 => h9) rfl dX4_setTriangle_39 ?_
  refine lv_iload hx hb dX4_setTriangle_42 (lv_at hl 4 rfl) ?_
  refine z_iald hx hb hK hP 9 0 rfl rfl (e := i1) rfl (by omega) (by omega) dX4_setTriangle_44 ?_
  have hPc := hP.sub (ws' := [(oc6 tg (.ref tx) (.ref ty) (nI (0 + 1)) 1), (oa tx cI 3 (upd TX 0 (X i0))), (oa ty cI 3 (upd TY 0 (Y i0)))]) [1, 2, 3] rfl
  have hDc := hD.sub (ws' := [(oc6 tg (.ref tx) (.ref ty) (nI (0 + 1)) 1), (oa tx cI 3 (upd TX 0 (X i0))), (oa ty cI 3 (upd TY 0 (Y i0)))]) [1, 2, 3] (by decide) rfl
  have hFc := va_free (wc := [(oc6 tg (.ref tx) (.ref ty) (nI (0 + 1)) 1), (oa tx cI 3 (upd TX 0 (X i0))), (oa ty cI 3 (upd TY 0 (Y i0)))]) hD hS hA [1, 2, 3] rfl
  refine zcall (st1 := []) (va_runV (As := [.int (P i1), .int (Q i1)]) (rest := []) ⟨hx, hb, hml, hown, hts⟩ (k_Row_put l dC dI cI cZ cF H.size tg tx ty (0 + 1) 3 (upd TX 0 (X i0)) (upd TY 0 (Y i0)) 1 (P i1) (Q i1) (by omega) (by omega)) (cwV 2 hts (zz_gV mw_699 mw_506 mw_507 mw_102 mc_yX7_put) rfl rfl rfl (by decide +kernel) ⟨Nat.le_of_ble_eq_true rfl, Nat.le_of_ble_eq_true rfl⟩) (zPV2 (q0 := 0) (ci := 6) hPc hDc hK hXN rfl rfl) rfl rfl hl.1 rfl (lv_room (Nat.le_of_ble_eq_true rfl)) dX4_setTriangle_45 ⟨Nat.le_of_ble_eq_true rfl, Nat.le_of_ble_eq_true rfl⟩) hS hFc hFc rfl (fun t H1 locs ht hB hk1 hS => ?_)
  obtain ⟨hP1, hD1⟩ := hB
  rw [ht] at hP1
  obtain ⟨hP, hD⟩ := va_join (wr := [(oc3 lw (.ref dr) (.ref tg) (.ref wy) (.ref br) (.ref bo) (.ref aa)), (oc6 r (.ref rx) (.ref ry) (nI n) rg), (oa rx cI cap X), (oa ry cI cap Y), (oc6 dr (.ref dx) (.ref dy) (nI nd) rd), (oa dx cI cd P), (oa dy cI cd Q)]) (w1 := [(oc6 tg (.ref tx) (.ref ty) (nI ((0 + 1) + 1)) 1), (oa tx cI 3 (upd (upd TX 0 (X i0)) (0 + 1) (P i1))), (oa ty cI 3 (upd (upd TY 0 (Y i0)) (0 + 1) (Q i1)))]) hP hD [1, 2, 3] [0, 4, 5, 6, 7, 8, 9] rfl rfl (by decide) (by decide) hk1 hFc hP1 hD1
  clear hk1 hPc hDc hFc hP1 hD1 ht
  generalize H1 = H at hP hS ⊢
  have hP := hP.sub (ws' := [(oc3 lw (.ref dr) (.ref tg) (.ref wy) (.ref br) (.ref bo) (.ref aa)), (oc6 tg (.ref tx) (.ref ty) (nI ((0 + 1) + 1)) 1), (oa tx cI 3 (upd (upd TX 0 (X i0)) (0 + 1) (P i1))), (oa ty cI 3 (upd (upd TY 0 (Y i0)) (0 + 1) (Q i1))), (oc6 r (.ref rx) (.ref ry) (nI n) rg), (oa rx cI cap X), (oa ry cI cap Y), (oc6 dr (.ref dx) (.ref dy) (nI nd) rd), (oa dx cI cd P), (oa dy cI cd Q)]) [0, 7, 8, 9, 1, 2, 3, 4, 5, 6] rfl
  have hD := hD.sub (ws' := [(oc3 lw (.ref dr) (.ref tg) (.ref wy) (.ref br) (.ref bo) (.ref aa)), (oc6 tg (.ref tx) (.ref ty) (nI ((0 + 1) + 1)) 1), (oa tx cI 3 (upd (upd TX 0 (X i0)) (0 + 1) (P i1))), (oa ty cI 3 (upd (upd TY 0 (Y i0)) (0 + 1) (Q i1))), (oc6 r (.ref rx) (.ref ry) (nI n) rg), (oa rx cI cap X), (oa ry cI cap Y), (oc6 dr (.ref dx) (.ref dy) (nI nd) rd), (oa dx cI cd P), (oa dy cI cd Q)]) [0, 7, 8, 9, 1, 2, 3, 4, 5, 6] (by decide) rfl
  have hP : va_P (dC, dI) classes [(oc3 lw (.ref dr) (.ref tg) (.ref wy) (.ref br) (.ref bo) (.ref aa)), (oc6 tg (.ref tx) (.ref ty) (nI ((0 + 1) + 1)) 1), (oa tx cI 3 (upd (upd TX 0 (X i0)) (0 + 1) (P i1))), (oa ty cI 3 (upd (upd TY 0 (Y i0)) (0 + 1) (Q i1))), (oc6 r (.ref rx) (.ref ry) (nI n) rg), (oa rx cI cap X), (oa ry cI cap Y), (oc6 dr (.ref dx) (.ref dy) (nI nd) rd), (oa dx cI cd P), (oa dy cI cd Q)] H := hP
  have hD : va_D A [(oc3 lw (.ref dr) (.ref tg) (.ref wy) (.ref br) (.ref bo) (.ref aa)), (oc6 tg (.ref tx) (.ref ty) (nI ((0 + 1) + 1)) 1), (oa tx cI 3 (upd (upd TX 0 (X i0)) (0 + 1) (P i1))), (oa ty cI 3 (upd (upd TY 0 (Y i0)) (0 + 1) (Q i1))), (oc6 r (.ref rx) (.ref ry) (nI n) rg), (oa rx cI cap X), (oa ry cI cap Y), (oc6 dr (.ref dx) (.ref dy) (nI nd) rd), (oa dx cI cd P), (oa dy cI cd Q)] := hD
  refine lv_aload_n hx hb dX4_setTriangle_48 rfl (lv_at hl 0 rfl) ?_
  refine va_get (D := (dC, dI)) (ci := 3) (v := .ref tg) (C := RX4) (T := TX4) (N := 6) hx hb hts inX4 hown hK hP 0 rfl rfl 1 (by decide) (hts _ mw_221) (fun _ h9 => h9) rfl dX4_setTriangle_49 ?_
  refine lv_aload hx hb dX4_setTriangle_52 (lv_at hl 5 rfl) ?_
  refine va_get (D := (dC, dI)) (ci := 6) (v := .ref dx) (C := RX7) (T := TX7) (N := 4) hx hb hts inX7 hown hK hP 7 rfl rfl 0 (by decide) (hts _ mw_163) (fun _ h9 => h9) rfl dX4_setTriangle_54 ?_
  refine lv_iload hx hb dX4_setTriangle_57 (lv_at hl 6 rfl) ?_
  refine z_iald hx hb hK hP 8 0 rfl rfl (e := i2) rfl (by omega) (by omega) dX4_setTriangle_59 ?_
  refine lv_aload hx hb dX4_setTriangle_60 (lv_at hl 5 rfl) ?_
  refine va_get (D := (dC, dI)) (ci := 6) (v := .ref dy) (C := RX7) (T := TX7) (N := 4) hx hb hts inX7 hown hK hP 7 rfl rfl 1 (by decide) (hts _ mw_170) (fun _ h9 => h9) rfl dX4_setTriangle_62 ?_
  refine lv_iload hx hb dX4_setTriangle_65 (lv_at hl 6 rfl) ?_
  refine z_iald hx hb hK hP 9 0 rfl rfl (e := i2) rfl (by omega) (by omega) dX4_setTriangle_67 ?_
  have hPc := hP.sub (ws' := [(oc6 tg (.ref tx) (.ref ty) (nI ((0 + 1) + 1)) 1), (oa tx cI 3 (upd (upd TX 0 (X i0)) (0 + 1) (P i1))), (oa ty cI 3 (upd (upd TY 0 (Y i0)) (0 + 1) (Q i1)))]) [1, 2, 3] rfl
  have hDc := hD.sub (ws' := [(oc6 tg (.ref tx) (.ref ty) (nI ((0 + 1) + 1)) 1), (oa tx cI 3 (upd (upd TX 0 (X i0)) (0 + 1) (P i1))), (oa ty cI 3 (upd (upd TY 0 (Y i0)) (0 + 1) (Q i1)))]) [1, 2, 3] (by decide) rfl
  have hFc := va_free (wc := [(oc6 tg (.ref tx) (.ref ty) (nI ((0 + 1) + 1)) 1), (oa tx cI 3 (upd (upd TX 0 (X i0)) (0 + 1) (P i1))), (oa ty cI 3 (upd (upd TY 0 (Y i0)) (0 + 1) (Q i1)))]) hD hS hA [1, 2, 3] rfl
  refine zcall (st1 := []) (va_runV (As := [.int (P i2), .int (Q i2)]) (rest := []) ⟨hx, hb, hml, hown, hts⟩ (k_Row_put l dC dI cI cZ cF H.size tg tx ty ((0 + 1) + 1) 3 (upd (upd TX 0 (X i0)) (0 + 1) (P i1)) (upd (upd TY 0 (Y i0)) (0 + 1) (Q i1)) 1 (P i2) (Q i2) (by omega) (by omega)) (cwV 2 hts (zz_gV mw_699 mw_506 mw_507 mw_102 mc_yX7_put) rfl rfl rfl (by decide +kernel) ⟨Nat.le_of_ble_eq_true rfl, Nat.le_of_ble_eq_true rfl⟩) (zPV2 (q0 := 0) (ci := 6) hPc hDc hK hXN rfl rfl) rfl rfl hl.1 rfl (lv_room (Nat.le_of_ble_eq_true rfl)) dX4_setTriangle_68 ⟨Nat.le_of_ble_eq_true rfl, Nat.le_of_ble_eq_true rfl⟩) hS hFc hFc rfl (fun t H1 locs ht hB hk1 hS => ?_)
  obtain ⟨hP1, hD1⟩ := hB
  rw [ht] at hP1
  obtain ⟨hP, hD⟩ := va_join (wr := [(oc3 lw (.ref dr) (.ref tg) (.ref wy) (.ref br) (.ref bo) (.ref aa)), (oc6 r (.ref rx) (.ref ry) (nI n) rg), (oa rx cI cap X), (oa ry cI cap Y), (oc6 dr (.ref dx) (.ref dy) (nI nd) rd), (oa dx cI cd P), (oa dy cI cd Q)]) (w1 := [(oc6 tg (.ref tx) (.ref ty) (nI (((0 + 1) + 1) + 1)) 1), (oa tx cI 3 (upd (upd (upd TX 0 (X i0)) (0 + 1) (P i1)) ((0 + 1) + 1) (P i2))), (oa ty cI 3 (upd (upd (upd TY 0 (Y i0)) (0 + 1) (Q i1)) ((0 + 1) + 1) (Q i2)))]) hP hD [1, 2, 3] [0, 4, 5, 6, 7, 8, 9] rfl rfl (by decide) (by decide) hk1 hFc hP1 hD1
  clear hk1 hPc hDc hFc hP1 hD1 ht
  generalize H1 = H at hP hS ⊢
  have hP := hP.sub (ws' := [(oc3 lw (.ref dr) (.ref tg) (.ref wy) (.ref br) (.ref bo) (.ref aa)), (oc6 tg (.ref tx) (.ref ty) (nI (((0 + 1) + 1) + 1)) 1), (oa tx cI 3 (upd (upd (upd TX 0 (X i0)) (0 + 1) (P i1)) ((0 + 1) + 1) (P i2))), (oa ty cI 3 (upd (upd (upd TY 0 (Y i0)) (0 + 1) (Q i1)) ((0 + 1) + 1) (Q i2))), (oc6 r (.ref rx) (.ref ry) (nI n) rg), (oa rx cI cap X), (oa ry cI cap Y), (oc6 dr (.ref dx) (.ref dy) (nI nd) rd), (oa dx cI cd P), (oa dy cI cd Q)]) [0, 7, 8, 9, 1, 2, 3, 4, 5, 6] rfl
  have hD := hD.sub (ws' := [(oc3 lw (.ref dr) (.ref tg) (.ref wy) (.ref br) (.ref bo) (.ref aa)), (oc6 tg (.ref tx) (.ref ty) (nI (((0 + 1) + 1) + 1)) 1), (oa tx cI 3 (upd (upd (upd TX 0 (X i0)) (0 + 1) (P i1)) ((0 + 1) + 1) (P i2))), (oa ty cI 3 (upd (upd (upd TY 0 (Y i0)) (0 + 1) (Q i1)) ((0 + 1) + 1) (Q i2))), (oc6 r (.ref rx) (.ref ry) (nI n) rg), (oa rx cI cap X), (oa ry cI cap Y), (oc6 dr (.ref dx) (.ref dy) (nI nd) rd), (oa dx cI cd P), (oa dy cI cd Q)]) [0, 7, 8, 9, 1, 2, 3, 4, 5, 6] (by decide) rfl
  have hP : va_P (dC, dI) classes [(oc3 lw (.ref dr) (.ref tg) (.ref wy) (.ref br) (.ref bo) (.ref aa)), (oc6 tg (.ref tx) (.ref ty) (nI (((0 + 1) + 1) + 1)) 1), (oa tx cI 3 (upd (upd (upd TX 0 (X i0)) (0 + 1) (P i1)) ((0 + 1) + 1) (P i2))), (oa ty cI 3 (upd (upd (upd TY 0 (Y i0)) (0 + 1) (Q i1)) ((0 + 1) + 1) (Q i2))), (oc6 r (.ref rx) (.ref ry) (nI n) rg), (oa rx cI cap X), (oa ry cI cap Y), (oc6 dr (.ref dx) (.ref dy) (nI nd) rd), (oa dx cI cd P), (oa dy cI cd Q)] H := hP
  have hD : va_D A [(oc3 lw (.ref dr) (.ref tg) (.ref wy) (.ref br) (.ref bo) (.ref aa)), (oc6 tg (.ref tx) (.ref ty) (nI (((0 + 1) + 1) + 1)) 1), (oa tx cI 3 (upd (upd (upd TX 0 (X i0)) (0 + 1) (P i1)) ((0 + 1) + 1) (P i2))), (oa ty cI 3 (upd (upd (upd TY 0 (Y i0)) (0 + 1) (Q i1)) ((0 + 1) + 1) (Q i2))), (oc6 r (.ref rx) (.ref ry) (nI n) rg), (oa rx cI cap X), (oa ry cI cap Y), (oc6 dr (.ref dx) (.ref dy) (nI nd) rd), (oa dx cI cd P), (oa dy cI cd Q)] := hD
  have hP9 := hP.sub (ws' := [(oc3 lw (.ref dr) (.ref tg) (.ref wy) (.ref br) (.ref bo) (.ref aa)), (oc6 tg (.ref tx) (.ref ty) (nI (((0 + 1) + 1) + 1)) 1), (oa tx cI 3 (upd (upd (upd TX 0 (X i0)) (0 + 1) (P i1)) ((0 + 1) + 1) (P i2))), (oa ty cI 3 (upd (upd (upd TY 0 (Y i0)) (0 + 1) (Q i1)) ((0 + 1) + 1) (Q i2))), (oc6 r (.ref rx) (.ref ry) (nI n) rg), (oa rx cI cap X), (oa ry cI cap Y), (oc6 dr (.ref dx) (.ref dy) (nI nd) rd), (oa dx cI cd P), (oa dy cI cd Q)]) [0, 1, 2, 3, 4, 5, 6, 7, 8, 9] rfl
  have hD9 := hD.sub (ws' := [(oc3 lw (.ref dr) (.ref tg) (.ref wy) (.ref br) (.ref bo) (.ref aa)), (oc6 tg (.ref tx) (.ref ty) (nI (((0 + 1) + 1) + 1)) 1), (oa tx cI 3 (upd (upd (upd TX 0 (X i0)) (0 + 1) (P i1)) ((0 + 1) + 1) (P i2))), (oa ty cI 3 (upd (upd (upd TY 0 (Y i0)) (0 + 1) (Q i1)) ((0 + 1) + 1) (Q i2))), (oc6 r (.ref rx) (.ref ry) (nI n) rg), (oa rx cI cap X), (oa ry cI cap Y), (oc6 dr (.ref dx) (.ref dy) (nI nd) rd), (oa dx cI cd P), (oa dy cI cd Q)]) [0, 1, 2, 3, 4, 5, 6, 7, 8, 9] (by decide) rfl
  have hE9 : ([(oc3 lw (.ref dr) (.ref tg) (.ref wy) (.ref br) (.ref bo) (.ref aa)), (oc6 tg (.ref tx) (.ref ty) (nI (((0 + 1) + 1) + 1)) 1), (oa tx cI 3 (upd (upd (upd TX 0 (X i0)) (0 + 1) (P i1)) ((0 + 1) + 1) (P i2))), (oa ty cI 3 (upd (upd (upd TY 0 (Y i0)) (0 + 1) (Q i1)) ((0 + 1) + 1) (Q i2))), (oc6 r (.ref rx) (.ref ry) (nI n) rg), (oa rx cI cap X), (oa ry cI cap Y), (oc6 dr (.ref dx) (.ref dy) (nI nd) rd), (oa dx cI cd P), (oa dy cI cd Q)] : va_W) = [(oc3 lw (.ref dr) (.ref tg) (.ref wy) (.ref br) (.ref bo) (.ref aa)), (oc6 tg (.ref tx) (.ref ty) (nI 3) 1), (oa tx cI 3 (upd (upd (upd TX 0 (X i0)) 1 (P i1)) 2 (P i2))), (oa ty cI 3 (upd (upd (upd TY 0 (Y i0)) 1 (Q i1)) 2 (Q i2))), (oc6 r (.ref rx) (.ref ry) (nI n) rg), (oa rx cI cap X), (oa ry cI cap Y), (oc6 dr (.ref dx) (.ref dy) (nI nd) rd), (oa dx cI cd P), (oa dy cI cd Q)] := by rfl
  rw [hE9] at hP9 hD9
  rw [hQ9]
  exact W.vret hx hb hr (fun t ht hW => ⟨⟨rfl, by rw [ht]; exact hP9, hD9⟩, hS.F ht⟩) hS.2.2 dX4_setTriangle_71
set_option maxHeartbeats 4000000 in
set_option maxRecDepth 100000 in
theorem k_Law_holdsCorner_rr (l : Launch) (dC : Nat → ClassId) (dI : Nat → Nat → Nat) (cI cZ cF : ClassId) (sz : Nat) (lw : Nat) (dr : Nat) (tg : Nat) (wy : Nat) (br : Nat) (bo : Nat) (aa : Nat) (tx : Nat) (ty : Nat) (TX : Nat → Int32) (TY : Nat → Int32) (u : Nat) (ux : Nat) (uy : Nat) (m2 : Nat) (cap2 : Nat) (U : Nat → Int32) (V : Nat → Int32) (rh : Int32) (r : Nat) (rx : Nat) (ry : Nat) (n : Nat) (cap : Nat) (X : Nat → Int32) (Y : Nat → Int32) (rg : Int32) (a9 : Nat) (c9 : Nat) (hn : n ≤ cap) (hcap : cap ≤ 1000) (hm : m2 ≤ cap2) (hcap2 : cap2 ≤ 1000) (hq : pls m2 U V) (hpt : pls 3 TX TY) (ha : a9 < n) (hc9 : c9 < n) : Met l yX4_holdsCorner (.code yX4_holdsCorner cX4_holdsCorner 10 (some .boolean) :: ws0) ({ frames := 1, cells := 0, slots := 0, locals := 26 } : Room) (va_Pc [.ref lw, .ref u, .ref r, .int (nI a9), .ref r, .int (nI c9)] (zPre (dC, dI) classes (zTy cI cZ cF) [(oc3 lw (.ref dr) (.ref tg) (.ref wy) (.ref br) (.ref bo) (.ref aa)), (oc6 tg (.ref tx) (.ref ty) (nI 3) 1), (oa tx cI 3 TX), (oa ty cI 3 TY), (oc6 u (.ref ux) (.ref uy) (nI m2) rh), (oa ux cI cap2 U), (oa uy cI cap2 V), (oc6 r (.ref rx) (.ref ry) (nI n) rg), (oa rx cI cap X), (oa ry cI cap Y)] sz zXN)) (zQ (some (.int (pI (∃ j7, j7 < m2 ∧ ¬ ((X a9).toInt = (U j7).toInt ∧ (Y a9).toInt = (V j7).toInt) ∧ ¬ ((X c9).toInt = (U j7).toInt ∧ (Y c9).toInt = (V j7).toInt) ∧ ¬ (whr 3 TX TY (U j7).toInt (V j7).toInt).toInt = 0)))) (fun t => va_P (dC, dI) classes [(oc3 lw (.ref dr) (.ref tg) (.ref wy) (.ref br) (.ref bo) (.ref aa)), (oc6 tg (.ref tx) (.ref ty) (nI 3) 1), (oa tx cI 3 TX), (oa ty cI 3 TY), (oc6 u (.ref ux) (.ref uy) (nI m2) rh), (oa ux cI cap2 U), (oa uy cI cap2 V), (oc6 r (.ref rx) (.ref ry) (nI n) rg), (oa rx cI cap X), (oa ry cI cap Y)] t.heap ∧ va_D (va_A [(oc3 lw (.ref dr) (.ref tg) (.ref wy) (.ref br) (.ref bo) (.ref aa)), (oc6 tg (.ref tx) (.ref ty) (nI 3) 1), (oa tx cI 3 TX), (oa ty cI 3 TY), (oc6 u (.ref ux) (.ref uy) (nI m2) rh), (oa ux cI cap2 U), (oa uy cI cap2 V), (oc6 r (.ref rx) (.ref ry) (nI n) rg), (oa rx cI cap X), (oa ry cI cap Y)] sz) [(oc3 lw (.ref dr) (.ref tg) (.ref wy) (.ref br) (.ref bo) (.ref aa)), (oc6 tg (.ref tx) (.ref ty) (nI 3) 1), (oa tx cI 3 TX), (oa ty cI 3 TY), (oc6 u (.ref ux) (.ref uy) (nI m2) rh), (oa ux cI cap2 U), (oa uy cI cap2 V), (oc6 r (.ref rx) (.ref ry) (nI n) rg), (oa rx cI cap X), (oa ry cI cap Y)]) (va_A [(oc3 lw (.ref dr) (.ref tg) (.ref wy) (.ref br) (.ref bo) (.ref aa)), (oc6 tg (.ref tx) (.ref ty) (nI 3) 1), (oa tx cI 3 TX), (oa ty cI 3 TY), (oc6 u (.ref ux) (.ref uy) (nI m2) rh), (oa ux cI cap2 U), (oa uy cI cap2 V), (oc6 r (.ref rx) (.ref ry) (nI n) rg), (oa rx cI cap X), (oa ry cI cap Y)] sz)) 0 0 (va_A [(oc3 lw (.ref dr) (.ref tg) (.ref wy) (.ref br) (.ref bo) (.ref aa)), (oc6 tg (.ref tx) (.ref ty) (nI 3) 1), (oa tx cI 3 TX), (oa ty cI 3 TY), (oc6 u (.ref ux) (.ref uy) (nI m2) rh), (oa ux cI cap2 U), (oa uy cI cap2 V), (oc6 r (.ref rx) (.ref ry) (nI n) rg), (oa rx cI cap X), (oa ry cI cap Y)] sz) := by
  refine Met.ofW (cc := cX4_holdsCorner) (maxL := 10) (ret := (some .boolean)) (by decide) rfl ?_
  intro p e s m args below meth c s₁ B hml hv
  obtain ⟨rfl, hsz, hP, hK, hD0, hXN⟩ := hv
  have hx := B.exec
  have hb := B.bytes
  have hr := B.returns
  have hts0 := atoms_spec (ws := .code yX4_holdsCorner cX4_holdsCorner 10 (some .boolean) :: ws0) B.pre
  have hts : ∀ w9 ∈ ws0, w9.before ([.ref lw, .ref u, .ref r, .int (nI a9), .ref r, .int (nI c9)] : List Value).toArray s = true := fun w9 h => hts0 w9 (List.mem_cons_of_mem _ h)
  have hown : s.vm.findClass "ScaleShop$Law" = some m.cls := findClass_of_methodNamed B.named
  have hlocks := B.notSynchronized
  subst hsz
  have hD := hD0.self (sz := s.heap.size)
  clear hD0
  generalize hAe : va_A [(oc3 lw (.ref dr) (.ref tg) (.ref wy) (.ref br) (.ref bo) (.ref aa)), (oc6 tg (.ref tx) (.ref ty) (nI 3) 1), (oa tx cI 3 TX), (oa ty cI 3 TY), (oc6 u (.ref ux) (.ref uy) (nI m2) rh), (oa ux cI cap2 U), (oa uy cI cap2 V), (oc6 r (.ref rx) (.ref ry) (nI n) rg), (oa rx cI cap X), (oa ry cI cap Y)] s.heap.size = A at hD ⊢
  have hA : ∀ q : Nat, s.heap.size ≤ q → A q := fun q h => by rw [← hAe]; exact Or.inr h
  clear hAe
  have hS : va_S A s.heap s.heap [] := va_S.rf
  have hP : va_P (dC, dI) classes [(oc3 lw (.ref dr) (.ref tg) (.ref wy) (.ref br) (.ref bo) (.ref aa)), (oc6 tg (.ref tx) (.ref ty) (nI 3) 1), (oa tx cI 3 TX), (oa ty cI 3 TY), (oc6 u (.ref ux) (.ref uy) (nI m2) rh), (oa ux cI cap2 U), (oa uy cI cap2 V), (oc6 r (.ref rx) (.ref ry) (nI n) rg), (oa rx cI cap X), (oa ry cI cap Y)] s.heap := hP
  obtain ⟨Q9, hQ9⟩ : ∃ Q9 : State → Prop, Q9 = MQ below (zQ (some (.int (pI (∃ j7, j7 < m2 ∧ ¬ ((X a9).toInt = (U j7).toInt ∧ (Y a9).toInt = (V j7).toInt) ∧ ¬ ((X c9).toInt = (U j7).toInt ∧ (Y c9).toInt = (V j7).toInt) ∧ ¬ (whr 3 TX TY (U j7).toInt (V j7).toInt).toInt = 0)))) (fun t => va_P (dC, dI) classes [(oc3 lw (.ref dr) (.ref tg) (.ref wy) (.ref br) (.ref bo) (.ref aa)), (oc6 tg (.ref tx) (.ref ty) (nI 3) 1), (oa tx cI 3 TX), (oa ty cI 3 TY), (oc6 u (.ref ux) (.ref uy) (nI m2) rh), (oa ux cI cap2 U), (oa uy cI cap2 V), (oc6 r (.ref rx) (.ref ry) (nI n) rg), (oa rx cI cap X), (oa ry cI cap Y)] t.heap ∧ va_D A [(oc3 lw (.ref dr) (.ref tg) (.ref wy) (.ref br) (.ref bo) (.ref aa)), (oc6 tg (.ref tx) (.ref ty) (nI 3) 1), (oa tx cI 3 TX), (oa ty cI 3 TY), (oc6 u (.ref ux) (.ref uy) (nI m2) rh), (oa ux cI cap2 U), (oa uy cI cap2 V), (oc6 r (.ref rx) (.ref ry) (nI n) rg), (oa rx cI cap X), (oa ry cI cap Y)]) A) ([.ref lw, .ref u, .ref r, .int (nI a9), .ref r, .int (nI c9)] : List Value).toArray s 0 0 A := ⟨_, rfl⟩
  rw [← hQ9]
  have hl := lv_entry ([.ref lw, .ref u, .ref r, .int (nI a9), .ref r, .int (nI c9)]) (n := 10) (Nat.le_of_ble_eq_true rfl)
  rw [lg_entry_eq]
  generalize (lg_sl ([.ref lw, .ref u, .ref r, .int (nI a9), .ref r, .int (nI c9)]) ++ List.replicate (10 - (lg_sl ([.ref lw, .ref u, .ref r, .int (nI a9), .ref r, .int (nI c9)])).length) Slot.unset).toArray = ls at hl ⊢
  have hl : lv_has ls 10 [(0, .ref lw), (1, .ref u), (2, .ref r), (3, .int (nI a9)), (4, .ref r), (5, .int (nI c9))] := hl
  refine lv_iconst (v := 0) hx hb dX4_holdsCorner_0 (by decide) ?_
  refine lv_istore (lv' := [(6, .int 0), (0, .ref lw), (1, .ref u), (2, .ref r), (3, .int (nI a9)), (4, .ref r), (5, .int (nI c9))]) hx hb dX4_holdsCorner_1 hl (by decide) rfl (fun ls hl => ?_)
  have hl_3 : ∀ (n9 : Nat) (k : Nat) (H : Heap) (locs : List Loc) (ls : Array Slot), m2 - k < n9 → (k ≤ m2) → (∀ j, j < k → ¬ (¬ ((X a9).toInt = (U j).toInt ∧ (Y a9).toInt = (V j).toInt) ∧ ¬ ((X c9).toInt = (U j).toInt ∧ (Y c9).toInt = (V j).toInt) ∧ ¬ (whr 3 TX TY (U j).toInt (V j).toInt).toInt = 0)) → va_P (dC, dI) classes [(oc3 lw (.ref dr) (.ref tg) (.ref wy) (.ref br) (.ref bo) (.ref aa)), (oc6 tg (.ref tx) (.ref ty) (nI 3) 1), (oa tx cI 3 TX), (oa ty cI 3 TY), (oc6 u (.ref ux) (.ref uy) (nI m2) rh), (oa ux cI cap2 U), (oa uy cI cap2 V), (oc6 r (.ref rx) (.ref ry) (nI n) rg), (oa rx cI cap X), (oa ry cI cap Y)] H → va_D A [(oc3 lw (.ref dr) (.ref tg) (.ref wy) (.ref br) (.ref bo) (.ref aa)), (oc6 tg (.ref tx) (.ref ty) (nI 3) 1), (oa tx cI 3 TX), (oa ty cI 3 TY), (oc6 u (.ref ux) (.ref uy) (nI m2) rh), (oa ux cI cap2 U), (oa uy cI cap2 V), (oc6 r (.ref rx) (.ref ry) (nI n) rg), (oa rx cI cap X), (oa ry cI cap Y)] → va_S A s.heap H locs → lv_has ls 10 [(6, .int (nI k)), (0, .ref lw), (1, .ref u), (2, .ref r), (3, .int (nI a9)), (4, .ref r), (5, .int (nI c9))] → W p l e ((headSpec (.code yX4_holdsCorner cX4_holdsCorner 10 (some .boolean) :: ws0) ({ frames := 1, cells := 0, slots := 0, locals := 26 } : Room)).room) s m ([.ref lw, .ref u, .ref r, .int (nI a9), .ref r, .int (nI c9)] : List Value).toArray below meth c H locs 0 0 Q9 (F0 m 3 ls []) := by
    intro n9
    induction n9 with
    | zero => intro k H locs ls hm; exact absurd hm (Nat.not_lt_zero _)
    | succ n9 ih_3 =>
      intro k H locs ls hm hk hno hP hD hS hl
      refine lv_iload hx hb dX4_holdsCorner_3 (lv_at hl 0 rfl) ?_
      refine lv_aload_n hx hb dX4_holdsCorner_5 rfl (lv_at hl 2 rfl) ?_
      refine va_get (D := (dC, dI)) (ci := 6) (v := .int (nI m2)) (C := RX7) (T := TX7) (N := 4) hx hb hts inX7 hown hK hP 4 rfl rfl 2 (by decide) (hts _ mw_176) (fun _ h9 => h9) rfl dX4_holdsCorner_6 ?_
      refine lv_icmp_ge (tgt := 99) hx hb dX4_holdsCorner_9 (by decide) (fun c_1 => ?_) (fun c_1 => ?_)
      · have c_1 : ((m2 : Nat) : Int) ≤ ((k : Nat) : Int) := zc_le (nI_toInt (by omega)) (nI_toInt (by omega)) c_1
        refine lv_iconst (v := 0) hx hb dX4_holdsCorner_99 (by decide) ?_
        have hP9 := hP.sub (ws' := [(oc3 lw (.ref dr) (.ref tg) (.ref wy) (.ref br) (.ref bo) (.ref aa)), (oc6 tg (.ref tx) (.ref ty) (nI 3) 1), (oa tx cI 3 TX), (oa ty cI 3 TY), (oc6 u (.ref ux) (.ref uy) (nI m2) rh), (oa ux cI cap2 U), (oa uy cI cap2 V), (oc6 r (.ref rx) (.ref ry) (nI n) rg), (oa rx cI cap X), (oa ry cI cap Y)]) [0, 1, 2, 3, 4, 5, 6, 7, 8, 9] rfl
        have hD9 := hD.sub (ws' := [(oc3 lw (.ref dr) (.ref tg) (.ref wy) (.ref br) (.ref bo) (.ref aa)), (oc6 tg (.ref tx) (.ref ty) (nI 3) 1), (oa tx cI 3 TX), (oa ty cI 3 TY), (oc6 u (.ref ux) (.ref uy) (nI m2) rh), (oa ux cI cap2 U), (oa uy cI cap2 V), (oc6 r (.ref rx) (.ref ry) (nI n) rg), (oa rx cI cap X), (oa ry cI cap Y)]) [0, 1, 2, 3, 4, 5, 6, 7, 8, 9] (by decide) rfl
        rw [hQ9]
        exact W.zret (ty := .boolean) (v := 0) hx hb hr (rfl) (fun t ht hW => ⟨⟨congrArg (fun z => Outcome.returned (some (Value.int z))) (show (0 : Int32) = pI (∃ j7, j7 < m2 ∧ ¬ ((X a9).toInt = (U j7).toInt ∧ (Y a9).toInt = (V j7).toInt) ∧ ¬ ((X c9).toInt = (U j7).toInt ∧ (Y c9).toInt = (V j7).toInt) ∧ ¬ (whr 3 TX TY (U j7).toInt (V j7).toInt).toInt = 0) from (zp_f (fun ⟨j, hj, h⟩ => hno j (by omega) h)).symm), by rw [ht]; exact hP9, hD9⟩, hS.F ht⟩) hS.2.2 dX4_holdsCorner_100
      · have c_1 : ((k : Nat) : Int) < ((m2 : Nat) : Int) := zc_nle (nI_toInt (by omega)) (nI_toInt (by omega)) c_1
        refine lv_aload_n hx hb dX4_holdsCorner_12 rfl (lv_at hl 2 rfl) ?_
        refine va_get (D := (dC, dI)) (ci := 6) (v := .ref ux) (C := RX7) (T := TX7) (N := 4) hx hb hts inX7 hown hK hP 4 rfl rfl 0 (by decide) (hts _ mw_163) (fun _ h9 => h9) rfl dX4_holdsCorner_13 ?_
        refine lv_iload hx hb dX4_holdsCorner_16 (lv_at hl 0 rfl) ?_
        refine z_iald hx hb hK hP 5 0 rfl rfl (e := k) rfl (by omega) (by omega) dX4_holdsCorner_18 ?_
        refine lv_istore (lv' := [(7, .int (U k)), (6, .int (nI k)), (0, .ref lw), (1, .ref u), (2, .ref r), (3, .int (nI a9)), (4, .ref r), (5, .int (nI c9))]) hx hb dX4_holdsCorner_19 hl (by decide) rfl (fun ls hl => ?_)
        refine lv_aload_n hx hb dX4_holdsCorner_21 rfl (lv_at hl 3 rfl) ?_
        refine va_get (D := (dC, dI)) (ci := 6) (v := .ref uy) (C := RX7) (T := TX7) (N := 4) hx hb hts inX7 hown hK hP 4 rfl rfl 1 (by decide) (hts _ mw_170) (fun _ h9 => h9) rfl dX4_holdsCorner_22 ?_
        refine lv_iload hx hb dX4_holdsCorner_25 (lv_at hl 1 rfl) ?_
        refine z_iald hx hb hK hP 6 0 rfl rfl (e := k) rfl (by omega) (by omega) dX4_holdsCorner_27 ?_
        refine lv_istore (lv' := [(8, .int (V k)), (7, .int (U k)), (6, .int (nI k)), (0, .ref lw), (1, .ref u), (2, .ref r), (3, .int (nI a9)), (4, .ref r), (5, .int (nI c9))]) hx hb dX4_holdsCorner_28 hl (by decide) rfl (fun ls hl => ?_)
        refine lv_aload_n hx hb dX4_holdsCorner_30 rfl (lv_at hl 5 rfl) ?_
        refine lv_ifnull hx hb dX4_holdsCorner_31 ?_
        refine lv_aload_n hx hb dX4_holdsCorner_34 rfl (lv_at hl 5 rfl) ?_
        refine lv_iload_n hx hb dX4_holdsCorner_35 rfl (lv_at hl 6 rfl) ?_
        refine lv_iload hx hb dX4_holdsCorner_36 (lv_at hl 1 rfl) ?_
        refine lv_iload hx hb dX4_holdsCorner_38 (lv_at hl 0 rfl) ?_
        have hPc := hP.sub (ws' := [(oc6 r (.ref rx) (.ref ry) (nI n) rg), (oa rx cI cap X), (oa ry cI cap Y)]) [7, 8, 9] rfl
        have hDc := hD.sub (ws' := [(oc6 r (.ref rx) (.ref ry) (nI n) rg), (oa rx cI cap X), (oa ry cI cap Y)]) [7, 8, 9] (by decide) rfl
        have hFc := va_free (wc := [(oc6 r (.ref rx) (.ref ry) (nI n) rg), (oa rx cI cap X), (oa ry cI cap Y)]) hD hS hA [7, 8, 9] rfl
        refine zcall (st1 := [.int (pI ((X a9).toInt = (U k).toInt ∧ (Y a9).toInt = (V k).toInt))]) (va_runV (As := [.int (nI a9), .int (U k), .int (V k)]) (rest := []) ⟨hx, hb, hml, hown, hts⟩ (k_Row_isCorner l dC dI cI cZ cF H.size r rx ry n cap X Y rg a9 (U k) (V k) (by omega) (by omega) (by omega)) (cwV 3 hts (zz_gV mw_713 mw_541 mw_542 mw_102 mc_yX7_isCorner) rfl rfl rfl (by decide +kernel) ⟨Nat.le_of_ble_eq_true rfl, Nat.le_of_ble_eq_true rfl⟩) (zPV2 (q0 := 0) (ci := 6) hPc hDc hK hXN rfl rfl) rfl rfl hl.1 rfl (lv_room (Nat.le_of_ble_eq_true rfl)) dX4_holdsCorner_40 ⟨Nat.le_of_ble_eq_true rfl, Nat.le_of_ble_eq_true rfl⟩) hS hFc hFc rfl (fun t H1 locs ht hB hk1 hS => ?_)
        obtain ⟨hP1, hD1⟩ := hB
        rw [ht] at hP1
        obtain ⟨hP, hD⟩ := va_join (wr := [(oc3 lw (.ref dr) (.ref tg) (.ref wy) (.ref br) (.ref bo) (.ref aa)), (oc6 tg (.ref tx) (.ref ty) (nI 3) 1), (oa tx cI 3 TX), (oa ty cI 3 TY), (oc6 u (.ref ux) (.ref uy) (nI m2) rh), (oa ux cI cap2 U), (oa uy cI cap2 V)]) (w1 := [(oc6 r (.ref rx) (.ref ry) (nI n) rg), (oa rx cI cap X), (oa ry cI cap Y)]) hP hD [7, 8, 9] [0, 1, 2, 3, 4, 5, 6] rfl rfl (by decide) (by decide) hk1 hFc hP1 hD1
        clear hk1 hPc hDc hFc hP1 hD1 ht
        generalize H1 = H at hP hS ⊢
        have hP : va_P (dC, dI) classes [(oc3 lw (.ref dr) (.ref tg) (.ref wy) (.ref br) (.ref bo) (.ref aa)), (oc6 tg (.ref tx) (.ref ty) (nI 3) 1), (oa tx cI 3 TX), (oa ty cI 3 TY), (oc6 u (.ref ux) (.ref uy) (nI m2) rh), (oa ux cI cap2 U), (oa uy cI cap2 V), (oc6 r (.ref rx) (.ref ry) (nI n) rg), (oa rx cI cap X), (oa ry cI cap Y)] H := hP
        have hD : va_D A [(oc3 lw (.ref dr) (.ref tg) (.ref wy) (.ref br) (.ref bo) (.ref aa)), (oc6 tg (.ref tx) (.ref ty) (nI 3) 1), (oa tx cI 3 TX), (oa ty cI 3 TY), (oc6 u (.ref ux) (.ref uy) (nI m2) rh), (oa ux cI cap2 U), (oa uy cI cap2 V), (oc6 r (.ref rx) (.ref ry) (nI n) rg), (oa rx cI cap X), (oa ry cI cap Y)] := hD
        refine lv_if_ne (tgt := 65) hx hb dX4_holdsCorner_43 (by decide) (fun c_2 => ?_) (fun c_2 => ?_)
        · have c_2 : (X a9).toInt = (U k).toInt ∧ (Y a9).toInt = (V k).toInt := zp_1 c_2
          refine lv_iconst (v := 1) hx hb dX4_holdsCorner_65 (by decide) ?_
          refine lv_goto (tgt := 70) hx hb dX4_holdsCorner_66 (by decide) ?_
          refine lv_istore (lv' := [(9, .int 1), (8, .int (V k)), (7, .int (U k)), (6, .int (nI k)), (0, .ref lw), (1, .ref u), (2, .ref r), (3, .int (nI a9)), (4, .ref r), (5, .int (nI c9))]) hx hb dX4_holdsCorner_70 hl (by decide) rfl (fun ls hl => ?_)
          refine lv_iload hx hb dX4_holdsCorner_72 (lv_at hl 0 rfl) ?_
          refine lv_if_ne (tgt := 93) hx hb dX4_holdsCorner_74 (by decide) (fun c_3 => ?_) (fun c_3 => ?_)
          · refine lv_iinc (v := nI (k + 1)) (lv' := [(6, .int (nI (k + 1))), (9, .int 1), (8, .int (V k)), (7, .int (U k)), (0, .ref lw), (1, .ref u), (2, .ref r), (3, .int (nI a9)), (4, .ref r), (5, .int (nI c9))]) hx hb dX4_holdsCorner_93 hl (k := 3) rfl (nI_add k 1) (by decide) rfl (fun ls hl => ?_)
            refine lv_goto (tgt := 3) hx hb dX4_holdsCorner_96 (by decide) ?_
            exact ih_3 (k + 1) H locs ls (by omega) (by omega) (by intro j hj; rcases Nat.lt_or_ge j k with h | h; exact hno j h; rw [show j = k by omega]; first | exact fun h => absurd (by assumption) h.1 | exact fun h => absurd (by assumption) h.2.1 | exact fun h => absurd (by assumption) h.2.2) hP hD hS (lv_sub hl [0, 4, 5, 6, 7, 8, 9] rfl)
          · exact absurd c_3 (by decide)
        · have c_2 : ¬ ((X a9).toInt = (U k).toInt ∧ (Y a9).toInt = (V k).toInt) := zp_0 c_2
          refine lv_aload hx hb dX4_holdsCorner_46 (lv_at hl 7 rfl) ?_
          refine lv_ifnull hx hb dX4_holdsCorner_48 ?_
          refine lv_aload hx hb dX4_holdsCorner_51 (lv_at hl 7 rfl) ?_
          refine lv_iload hx hb dX4_holdsCorner_53 (lv_at hl 8 rfl) ?_
          refine lv_iload hx hb dX4_holdsCorner_55 (lv_at hl 1 rfl) ?_
          refine lv_iload hx hb dX4_holdsCorner_57 (lv_at hl 0 rfl) ?_
          have hPc := hP.sub (ws' := [(oc6 r (.ref rx) (.ref ry) (nI n) rg), (oa rx cI cap X), (oa ry cI cap Y)]) [7, 8, 9] rfl
          have hDc := hD.sub (ws' := [(oc6 r (.ref rx) (.ref ry) (nI n) rg), (oa rx cI cap X), (oa ry cI cap Y)]) [7, 8, 9] (by decide) rfl
          have hFc := va_free (wc := [(oc6 r (.ref rx) (.ref ry) (nI n) rg), (oa rx cI cap X), (oa ry cI cap Y)]) hD hS hA [7, 8, 9] rfl
          refine zcall (st1 := [.int (pI ((X c9).toInt = (U k).toInt ∧ (Y c9).toInt = (V k).toInt))]) (va_runV (As := [.int (nI c9), .int (U k), .int (V k)]) (rest := []) ⟨hx, hb, hml, hown, hts⟩ (k_Row_isCorner l dC dI cI cZ cF H.size r rx ry n cap X Y rg c9 (U k) (V k) (by omega) (by omega) (by omega)) (cwV 3 hts (zz_gV mw_713 mw_541 mw_542 mw_102 mc_yX7_isCorner) rfl rfl rfl (by decide +kernel) ⟨Nat.le_of_ble_eq_true rfl, Nat.le_of_ble_eq_true rfl⟩) (zPV2 (q0 := 0) (ci := 6) hPc hDc hK hXN rfl rfl) rfl rfl hl.1 rfl (lv_room (Nat.le_of_ble_eq_true rfl)) dX4_holdsCorner_59 ⟨Nat.le_of_ble_eq_true rfl, Nat.le_of_ble_eq_true rfl⟩) hS hFc hFc rfl (fun t H1 locs ht hB hk1 hS => ?_)
          obtain ⟨hP1, hD1⟩ := hB
          rw [ht] at hP1
          obtain ⟨hP, hD⟩ := va_join (wr := [(oc3 lw (.ref dr) (.ref tg) (.ref wy) (.ref br) (.ref bo) (.ref aa)), (oc6 tg (.ref tx) (.ref ty) (nI 3) 1), (oa tx cI 3 TX), (oa ty cI 3 TY), (oc6 u (.ref ux) (.ref uy) (nI m2) rh), (oa ux cI cap2 U), (oa uy cI cap2 V)]) (w1 := [(oc6 r (.ref rx) (.ref ry) (nI n) rg), (oa rx cI cap X), (oa ry cI cap Y)]) hP hD [7, 8, 9] [0, 1, 2, 3, 4, 5, 6] rfl rfl (by decide) (by decide) hk1 hFc hP1 hD1
          clear hk1 hPc hDc hFc hP1 hD1 ht
          generalize H1 = H at hP hS ⊢
          have hP : va_P (dC, dI) classes [(oc3 lw (.ref dr) (.ref tg) (.ref wy) (.ref br) (.ref bo) (.ref aa)), (oc6 tg (.ref tx) (.ref ty) (nI 3) 1), (oa tx cI 3 TX), (oa ty cI 3 TY), (oc6 u (.ref ux) (.ref uy) (nI m2) rh), (oa ux cI cap2 U), (oa uy cI cap2 V), (oc6 r (.ref rx) (.ref ry) (nI n) rg), (oa rx cI cap X), (oa ry cI cap Y)] H := hP
          have hD : va_D A [(oc3 lw (.ref dr) (.ref tg) (.ref wy) (.ref br) (.ref bo) (.ref aa)), (oc6 tg (.ref tx) (.ref ty) (nI 3) 1), (oa tx cI 3 TX), (oa ty cI 3 TY), (oc6 u (.ref ux) (.ref uy) (nI m2) rh), (oa ux cI cap2 U), (oa uy cI cap2 V), (oc6 r (.ref rx) (.ref ry) (nI n) rg), (oa rx cI cap X), (oa ry cI cap Y)] := hD
          refine lv_if_eq (tgt := 69) hx hb dX4_holdsCorner_62 (by decide) (fun c_4 => ?_) (fun c_4 => ?_)
          · have c_4 : ¬ ((X c9).toInt = (U k).toInt ∧ (Y c9).toInt = (V k).toInt) := zp_0 c_4
            refine lv_iconst (v := 0) hx hb dX4_holdsCorner_69 (by decide) ?_
            refine lv_istore (lv' := [(9, .int 0), (8, .int (V k)), (7, .int (U k)), (6, .int (nI k)), (0, .ref lw), (1, .ref u), (2, .ref r), (3, .int (nI a9)), (4, .ref r), (5, .int (nI c9))]) hx hb dX4_holdsCorner_70 hl (by decide) rfl (fun ls hl => ?_)
            refine lv_iload hx hb dX4_holdsCorner_72 (lv_at hl 0 rfl) ?_
            refine lv_if_ne (tgt := 93) hx hb dX4_holdsCorner_74 (by decide) (fun c_5 => ?_) (fun c_5 => ?_)
            · exact absurd (by decide) c_5
            · refine lv_aload_n hx hb dX4_holdsCorner_77 rfl (lv_at hl 4 rfl) ?_
              refine va_get (D := (dC, dI)) (ci := 3) (v := .ref tg) (C := RX4) (T := TX4) (N := 6) hx hb hts inX4 hown hK hP 0 rfl rfl 1 (by decide) (hts _ mw_221) (fun _ h9 => h9) rfl dX4_holdsCorner_78 ?_
              refine lv_iload hx hb dX4_holdsCorner_81 (lv_at hl 2 rfl) ?_
              refine lv_iload hx hb dX4_holdsCorner_83 (lv_at hl 1 rfl) ?_
              have hPc := hP.sub (ws' := [(oc6 tg (.ref tx) (.ref ty) (nI 3) 1), (oa tx cI 3 TX), (oa ty cI 3 TY)]) [1, 2, 3] rfl
              have hDc := hD.sub (ws' := [(oc6 tg (.ref tx) (.ref ty) (nI 3) 1), (oa tx cI 3 TX), (oa ty cI 3 TY)]) [1, 2, 3] (by decide) rfl
              have hFc := va_free (wc := [(oc6 tg (.ref tx) (.ref ty) (nI 3) 1), (oa tx cI 3 TX), (oa ty cI 3 TY)]) hD hS hA [1, 2, 3] rfl
              refine zcall (st1 := [.int (whr 3 TX TY (U k).toInt (V k).toInt)]) (va_runV (As := [.int (U k), .int (V k)]) (rest := []) ⟨hx, hb, hml, hown, hts⟩ (k_Row_where l dC dI cI cZ cF H.size tg tx ty 3 3 TX TY 1 (U k) (V k) (by omega) (by omega) (hpt) ((hq k (by omega)).1) ((hq k (by omega)).2)) (cwV 2 hts (zz_gV mw_687 mw_688 mw_689 mw_102 mc_yX7_where) rfl rfl rfl (by decide +kernel) ⟨Nat.le_of_ble_eq_true rfl, Nat.le_of_ble_eq_true rfl⟩) (zPV2 (q0 := 0) (ci := 6) hPc hDc hK hXN rfl rfl) rfl rfl hl.1 rfl (lv_room (Nat.le_of_ble_eq_true rfl)) dX4_holdsCorner_85 ⟨Nat.le_of_ble_eq_true rfl, Nat.le_of_ble_eq_true rfl⟩) hS hFc hFc rfl (fun t H1 locs ht hB hk1 hS => ?_)
              obtain ⟨hP1, hD1⟩ := hB
              rw [ht] at hP1
              obtain ⟨hP, hD⟩ := va_join (wr := [(oc3 lw (.ref dr) (.ref tg) (.ref wy) (.ref br) (.ref bo) (.ref aa)), (oc6 u (.ref ux) (.ref uy) (nI m2) rh), (oa ux cI cap2 U), (oa uy cI cap2 V), (oc6 r (.ref rx) (.ref ry) (nI n) rg), (oa rx cI cap X), (oa ry cI cap Y)]) (w1 := [(oc6 tg (.ref tx) (.ref ty) (nI 3) 1), (oa tx cI 3 TX), (oa ty cI 3 TY)]) hP hD [1, 2, 3] [0, 4, 5, 6, 7, 8, 9] rfl rfl (by decide) (by decide) hk1 hFc hP1 hD1
              clear hk1 hPc hDc hFc hP1 hD1 ht
              generalize H1 = H at hP hS ⊢
              have hP := hP.sub (ws' := [(oc3 lw (.ref dr) (.ref tg) (.ref wy) (.ref br) (.ref bo) (.ref aa)), (oc6 tg (.ref tx) (.ref ty) (nI 3) 1), (oa tx cI 3 TX), (oa ty cI 3 TY), (oc6 u (.ref ux) (.ref uy) (nI m2) rh), (oa ux cI cap2 U), (oa uy cI cap2 V), (oc6 r (.ref rx) (.ref ry) (nI n) rg), (oa rx cI cap X), (oa ry cI cap Y)]) [0, 7, 8, 9, 1, 2, 3, 4, 5, 6] rfl
              have hD := hD.sub (ws' := [(oc3 lw (.ref dr) (.ref tg) (.ref wy) (.ref br) (.ref bo) (.ref aa)), (oc6 tg (.ref tx) (.ref ty) (nI 3) 1), (oa tx cI 3 TX), (oa ty cI 3 TY), (oc6 u (.ref ux) (.ref uy) (nI m2) rh), (oa ux cI cap2 U), (oa uy cI cap2 V), (oc6 r (.ref rx) (.ref ry) (nI n) rg), (oa rx cI cap X), (oa ry cI cap Y)]) [0, 7, 8, 9, 1, 2, 3, 4, 5, 6] (by decide) rfl
              have hP : va_P (dC, dI) classes [(oc3 lw (.ref dr) (.ref tg) (.ref wy) (.ref br) (.ref bo) (.ref aa)), (oc6 tg (.ref tx) (.ref ty) (nI 3) 1), (oa tx cI 3 TX), (oa ty cI 3 TY), (oc6 u (.ref ux) (.ref uy) (nI m2) rh), (oa ux cI cap2 U), (oa uy cI cap2 V), (oc6 r (.ref rx) (.ref ry) (nI n) rg), (oa rx cI cap X), (oa ry cI cap Y)] H := hP
              have hD : va_D A [(oc3 lw (.ref dr) (.ref tg) (.ref wy) (.ref br) (.ref bo) (.ref aa)), (oc6 tg (.ref tx) (.ref ty) (nI 3) 1), (oa tx cI 3 TX), (oa ty cI 3 TY), (oc6 u (.ref ux) (.ref uy) (nI m2) rh), (oa ux cI cap2 U), (oa uy cI cap2 V), (oc6 r (.ref rx) (.ref ry) (nI n) rg), (oa rx cI cap X), (oa ry cI cap Y)] := hD
              refine lv_if_eq (tgt := 93) hx hb dX4_holdsCorner_88 (by decide) (fun c_6 => ?_) (fun c_6 => ?_)
              · have c_6 : (whr 3 TX TY (U k).toInt (V k).toInt).toInt = 0 := zc_eq rfl (by decide) c_6
                refine lv_iinc (v := nI (k + 1)) (lv' := [(6, .int (nI (k + 1))), (9, .int 0), (8, .int (V k)), (7, .int (U k)), (0, .ref lw), (1, .ref u), (2, .ref r), (3, .int (nI a9)), (4, .ref r), (5, .int (nI c9))]) hx hb dX4_holdsCorner_93 hl (k := 3) rfl (nI_add k 1) (by decide) rfl (fun ls hl => ?_)
                refine lv_goto (tgt := 3) hx hb dX4_holdsCorner_96 (by decide) ?_
                exact ih_3 (k + 1) H locs ls (by omega) (by omega) (by intro j hj; rcases Nat.lt_or_ge j k with h | h; exact hno j h; rw [show j = k by omega]; first | exact fun h => absurd (by assumption) h.1 | exact fun h => absurd (by assumption) h.2.1 | exact fun h => absurd (by assumption) h.2.2) hP hD hS (lv_sub hl [0, 4, 5, 6, 7, 8, 9] rfl)
              · have c_6 : ¬ (whr 3 TX TY (U k).toInt (V k).toInt).toInt = 0 := zc_ne rfl (by decide) c_6
                refine lv_iconst (v := 1) hx hb dX4_holdsCorner_91 (by decide) ?_
                have hP9 := hP.sub (ws' := [(oc3 lw (.ref dr) (.ref tg) (.ref wy) (.ref br) (.ref bo) (.ref aa)), (oc6 tg (.ref tx) (.ref ty) (nI 3) 1), (oa tx cI 3 TX), (oa ty cI 3 TY), (oc6 u (.ref ux) (.ref uy) (nI m2) rh), (oa ux cI cap2 U), (oa uy cI cap2 V), (oc6 r (.ref rx) (.ref ry) (nI n) rg), (oa rx cI cap X), (oa ry cI cap Y)]) [0, 1, 2, 3, 4, 5, 6, 7, 8, 9] rfl
                have hD9 := hD.sub (ws' := [(oc3 lw (.ref dr) (.ref tg) (.ref wy) (.ref br) (.ref bo) (.ref aa)), (oc6 tg (.ref tx) (.ref ty) (nI 3) 1), (oa tx cI 3 TX), (oa ty cI 3 TY), (oc6 u (.ref ux) (.ref uy) (nI m2) rh), (oa ux cI cap2 U), (oa uy cI cap2 V), (oc6 r (.ref rx) (.ref ry) (nI n) rg), (oa rx cI cap X), (oa ry cI cap Y)]) [0, 1, 2, 3, 4, 5, 6, 7, 8, 9] (by decide) rfl
                rw [hQ9]
                exact W.zret (ty := .boolean) (v := 1) hx hb hr (rfl) (fun t ht hW => ⟨⟨congrArg (fun z => Outcome.returned (some (Value.int z))) (show (1 : Int32) = pI (∃ j7, j7 < m2 ∧ ¬ ((X a9).toInt = (U j7).toInt ∧ (Y a9).toInt = (V j7).toInt) ∧ ¬ ((X c9).toInt = (U j7).toInt ∧ (Y c9).toInt = (V j7).toInt) ∧ ¬ (whr 3 TX TY (U j7).toInt (V j7).toInt).toInt = 0) from (zp_t (⟨k, by omega, by assumption, by assumption, by assumption⟩)).symm), by rw [ht]; exact hP9, hD9⟩, hS.F ht⟩) hS.2.2 dX4_holdsCorner_92
          · have c_4 : (X c9).toInt = (U k).toInt ∧ (Y c9).toInt = (V k).toInt := zp_1 c_4
            refine lv_iconst (v := 1) hx hb dX4_holdsCorner_65 (by decide) ?_
            refine lv_goto (tgt := 70) hx hb dX4_holdsCorner_66 (by decide) ?_
            refine lv_istore (lv' := [(9, .int 1), (8, .int (V k)), (7, .int (U k)), (6, .int (nI k)), (0, .ref lw), (1, .ref u), (2, .ref r), (3, .int (nI a9)), (4, .ref r), (5, .int (nI c9))]) hx hb dX4_holdsCorner_70 hl (by decide) rfl (fun ls hl => ?_)
            refine lv_iload hx hb dX4_holdsCorner_72 (lv_at hl 0 rfl) ?_
            refine lv_if_ne (tgt := 93) hx hb dX4_holdsCorner_74 (by decide) (fun c_7 => ?_) (fun c_7 => ?_)
            · refine lv_iinc (v := nI (k + 1)) (lv' := [(6, .int (nI (k + 1))), (9, .int 1), (8, .int (V k)), (7, .int (U k)), (0, .ref lw), (1, .ref u), (2, .ref r), (3, .int (nI a9)), (4, .ref r), (5, .int (nI c9))]) hx hb dX4_holdsCorner_93 hl (k := 3) rfl (nI_add k 1) (by decide) rfl (fun ls hl => ?_)
              refine lv_goto (tgt := 3) hx hb dX4_holdsCorner_96 (by decide) ?_
              exact ih_3 (k + 1) H locs ls (by omega) (by omega) (by intro j hj; rcases Nat.lt_or_ge j k with h | h; exact hno j h; rw [show j = k by omega]; first | exact fun h => absurd (by assumption) h.1 | exact fun h => absurd (by assumption) h.2.1 | exact fun h => absurd (by assumption) h.2.2) hP hD hS (lv_sub hl [0, 4, 5, 6, 7, 8, 9] rfl)
            · exact absurd c_7 (by decide)
  exact hl_3 _ 0 s.heap [] ls (Nat.lt_succ_self _) (by omega) (by intro j hj; omega) hP hD hS (lv_sub hl [0, 1, 2, 3, 4, 5, 6] rfl)
set_option maxHeartbeats 4000000 in
set_option maxRecDepth 100000 in
theorem k_Law_holdsCorner_rn (l : Launch) (dC : Nat → ClassId) (dI : Nat → Nat → Nat) (cI cZ cF : ClassId) (sz : Nat) (lw : Nat) (dr : Nat) (tg : Nat) (wy : Nat) (br : Nat) (bo : Nat) (aa : Nat) (tx : Nat) (ty : Nat) (TX : Nat → Int32) (TY : Nat → Int32) (u : Nat) (ux : Nat) (uy : Nat) (m2 : Nat) (cap2 : Nat) (U : Nat → Int32) (V : Nat → Int32) (rh : Int32) (r : Nat) (rx : Nat) (ry : Nat) (n : Nat) (cap : Nat) (X : Nat → Int32) (Y : Nat → Int32) (rg : Int32) (a9 : Nat) (c9 : Nat) (hn : n ≤ cap) (hcap : cap ≤ 1000) (hm : m2 ≤ cap2) (hcap2 : cap2 ≤ 1000) (hq : pls m2 U V) (hpt : pls 3 TX TY) (ha : a9 < n) : Met l yX4_holdsCorner (.code yX4_holdsCorner cX4_holdsCorner 10 (some .boolean) :: ws0) ({ frames := 1, cells := 0, slots := 0, locals := 26 } : Room) (va_Pc [.ref lw, .ref u, .ref r, .int (nI a9), .null, .int (nI c9)] (zPre (dC, dI) classes (zTy cI cZ cF) [(oc3 lw (.ref dr) (.ref tg) (.ref wy) (.ref br) (.ref bo) (.ref aa)), (oc6 tg (.ref tx) (.ref ty) (nI 3) 1), (oa tx cI 3 TX), (oa ty cI 3 TY), (oc6 u (.ref ux) (.ref uy) (nI m2) rh), (oa ux cI cap2 U), (oa uy cI cap2 V), (oc6 r (.ref rx) (.ref ry) (nI n) rg), (oa rx cI cap X), (oa ry cI cap Y)] sz zXN)) (zQ (some (.int (pI (∃ j7, j7 < m2 ∧ ¬ ((X a9).toInt = (U j7).toInt ∧ (Y a9).toInt = (V j7).toInt) ∧ ¬ (whr 3 TX TY (U j7).toInt (V j7).toInt).toInt = 0)))) (fun t => va_P (dC, dI) classes [(oc3 lw (.ref dr) (.ref tg) (.ref wy) (.ref br) (.ref bo) (.ref aa)), (oc6 tg (.ref tx) (.ref ty) (nI 3) 1), (oa tx cI 3 TX), (oa ty cI 3 TY), (oc6 u (.ref ux) (.ref uy) (nI m2) rh), (oa ux cI cap2 U), (oa uy cI cap2 V), (oc6 r (.ref rx) (.ref ry) (nI n) rg), (oa rx cI cap X), (oa ry cI cap Y)] t.heap ∧ va_D (va_A [(oc3 lw (.ref dr) (.ref tg) (.ref wy) (.ref br) (.ref bo) (.ref aa)), (oc6 tg (.ref tx) (.ref ty) (nI 3) 1), (oa tx cI 3 TX), (oa ty cI 3 TY), (oc6 u (.ref ux) (.ref uy) (nI m2) rh), (oa ux cI cap2 U), (oa uy cI cap2 V), (oc6 r (.ref rx) (.ref ry) (nI n) rg), (oa rx cI cap X), (oa ry cI cap Y)] sz) [(oc3 lw (.ref dr) (.ref tg) (.ref wy) (.ref br) (.ref bo) (.ref aa)), (oc6 tg (.ref tx) (.ref ty) (nI 3) 1), (oa tx cI 3 TX), (oa ty cI 3 TY), (oc6 u (.ref ux) (.ref uy) (nI m2) rh), (oa ux cI cap2 U), (oa uy cI cap2 V), (oc6 r (.ref rx) (.ref ry) (nI n) rg), (oa rx cI cap X), (oa ry cI cap Y)]) (va_A [(oc3 lw (.ref dr) (.ref tg) (.ref wy) (.ref br) (.ref bo) (.ref aa)), (oc6 tg (.ref tx) (.ref ty) (nI 3) 1), (oa tx cI 3 TX), (oa ty cI 3 TY), (oc6 u (.ref ux) (.ref uy) (nI m2) rh), (oa ux cI cap2 U), (oa uy cI cap2 V), (oc6 r (.ref rx) (.ref ry) (nI n) rg), (oa rx cI cap X), (oa ry cI cap Y)] sz)) 0 0 (va_A [(oc3 lw (.ref dr) (.ref tg) (.ref wy) (.ref br) (.ref bo) (.ref aa)), (oc6 tg (.ref tx) (.ref ty) (nI 3) 1), (oa tx cI 3 TX), (oa ty cI 3 TY), (oc6 u (.ref ux) (.ref uy) (nI m2) rh), (oa ux cI cap2 U), (oa uy cI cap2 V), (oc6 r (.ref rx) (.ref ry) (nI n) rg), (oa rx cI cap X), (oa ry cI cap Y)] sz) := by
  refine Met.ofW (cc := cX4_holdsCorner) (maxL := 10) (ret := (some .boolean)) (by decide) rfl ?_
  intro p e s m args below meth c s₁ B hml hv
  obtain ⟨rfl, hsz, hP, hK, hD0, hXN⟩ := hv
  have hx := B.exec
  have hb := B.bytes
  have hr := B.returns
  have hts0 := atoms_spec (ws := .code yX4_holdsCorner cX4_holdsCorner 10 (some .boolean) :: ws0) B.pre
  have hts : ∀ w9 ∈ ws0, w9.before ([.ref lw, .ref u, .ref r, .int (nI a9), .null, .int (nI c9)] : List Value).toArray s = true := fun w9 h => hts0 w9 (List.mem_cons_of_mem _ h)
  have hown : s.vm.findClass "ScaleShop$Law" = some m.cls := findClass_of_methodNamed B.named
  have hlocks := B.notSynchronized
  subst hsz
  have hD := hD0.self (sz := s.heap.size)
  clear hD0
  generalize hAe : va_A [(oc3 lw (.ref dr) (.ref tg) (.ref wy) (.ref br) (.ref bo) (.ref aa)), (oc6 tg (.ref tx) (.ref ty) (nI 3) 1), (oa tx cI 3 TX), (oa ty cI 3 TY), (oc6 u (.ref ux) (.ref uy) (nI m2) rh), (oa ux cI cap2 U), (oa uy cI cap2 V), (oc6 r (.ref rx) (.ref ry) (nI n) rg), (oa rx cI cap X), (oa ry cI cap Y)] s.heap.size = A at hD ⊢
  have hA : ∀ q : Nat, s.heap.size ≤ q → A q := fun q h => by rw [← hAe]; exact Or.inr h
  clear hAe
  have hS : va_S A s.heap s.heap [] := va_S.rf
  have hP : va_P (dC, dI) classes [(oc3 lw (.ref dr) (.ref tg) (.ref wy) (.ref br) (.ref bo) (.ref aa)), (oc6 tg (.ref tx) (.ref ty) (nI 3) 1), (oa tx cI 3 TX), (oa ty cI 3 TY), (oc6 u (.ref ux) (.ref uy) (nI m2) rh), (oa ux cI cap2 U), (oa uy cI cap2 V), (oc6 r (.ref rx) (.ref ry) (nI n) rg), (oa rx cI cap X), (oa ry cI cap Y)] s.heap := hP
  obtain ⟨Q9, hQ9⟩ : ∃ Q9 : State → Prop, Q9 = MQ below (zQ (some (.int (pI (∃ j7, j7 < m2 ∧ ¬ ((X a9).toInt = (U j7).toInt ∧ (Y a9).toInt = (V j7).toInt) ∧ ¬ (whr 3 TX TY (U j7).toInt (V j7).toInt).toInt = 0)))) (fun t => va_P (dC, dI) classes [(oc3 lw (.ref dr) (.ref tg) (.ref wy) (.ref br) (.ref bo) (.ref aa)), (oc6 tg (.ref tx) (.ref ty) (nI 3) 1), (oa tx cI 3 TX), (oa ty cI 3 TY), (oc6 u (.ref ux) (.ref uy) (nI m2) rh), (oa ux cI cap2 U), (oa uy cI cap2 V), (oc6 r (.ref rx) (.ref ry) (nI n) rg), (oa rx cI cap X), (oa ry cI cap Y)] t.heap ∧ va_D A [(oc3 lw (.ref dr) (.ref tg) (.ref wy) (.ref br) (.ref bo) (.ref aa)), (oc6 tg (.ref tx) (.ref ty) (nI 3) 1), (oa tx cI 3 TX), (oa ty cI 3 TY), (oc6 u (.ref ux) (.ref uy) (nI m2) rh), (oa ux cI cap2 U), (oa uy cI cap2 V), (oc6 r (.ref rx) (.ref ry) (nI n) rg), (oa rx cI cap X), (oa ry cI cap Y)]) A) ([.ref lw, .ref u, .ref r, .int (nI a9), .null, .int (nI c9)] : List Value).toArray s 0 0 A := ⟨_, rfl⟩
  rw [← hQ9]
  have hl := lv_entry ([.ref lw, .ref u, .ref r, .int (nI a9), .null, .int (nI c9)]) (n := 10) (Nat.le_of_ble_eq_true rfl)
  rw [lg_entry_eq]
  generalize (lg_sl ([.ref lw, .ref u, .ref r, .int (nI a9), .null, .int (nI c9)]) ++ List.replicate (10 - (lg_sl ([.ref lw, .ref u, .ref r, .int (nI a9), .null, .int (nI c9)])).length) Slot.unset).toArray = ls at hl ⊢
  have hl : lv_has ls 10 [(0, .ref lw), (1, .ref u), (2, .ref r), (3, .int (nI a9)), (4, .null), (5, .int (nI c9))] := hl
  refine lv_iconst (v := 0) hx hb dX4_holdsCorner_0 (by decide) ?_
  refine lv_istore (lv' := [(6, .int 0), (0, .ref lw), (1, .ref u), (2, .ref r), (3, .int (nI a9)), (4, .null), (5, .int (nI c9))]) hx hb dX4_holdsCorner_1 hl (by decide) rfl (fun ls hl => ?_)
  have hl_3 : ∀ (n9 : Nat) (k : Nat) (H : Heap) (locs : List Loc) (ls : Array Slot), m2 - k < n9 → (k ≤ m2) → (∀ j, j < k → ¬ (¬ ((X a9).toInt = (U j).toInt ∧ (Y a9).toInt = (V j).toInt) ∧ ¬ (whr 3 TX TY (U j).toInt (V j).toInt).toInt = 0)) → va_P (dC, dI) classes [(oc3 lw (.ref dr) (.ref tg) (.ref wy) (.ref br) (.ref bo) (.ref aa)), (oc6 tg (.ref tx) (.ref ty) (nI 3) 1), (oa tx cI 3 TX), (oa ty cI 3 TY), (oc6 u (.ref ux) (.ref uy) (nI m2) rh), (oa ux cI cap2 U), (oa uy cI cap2 V), (oc6 r (.ref rx) (.ref ry) (nI n) rg), (oa rx cI cap X), (oa ry cI cap Y)] H → va_D A [(oc3 lw (.ref dr) (.ref tg) (.ref wy) (.ref br) (.ref bo) (.ref aa)), (oc6 tg (.ref tx) (.ref ty) (nI 3) 1), (oa tx cI 3 TX), (oa ty cI 3 TY), (oc6 u (.ref ux) (.ref uy) (nI m2) rh), (oa ux cI cap2 U), (oa uy cI cap2 V), (oc6 r (.ref rx) (.ref ry) (nI n) rg), (oa rx cI cap X), (oa ry cI cap Y)] → va_S A s.heap H locs → lv_has ls 10 [(6, .int (nI k)), (0, .ref lw), (1, .ref u), (2, .ref r), (3, .int (nI a9)), (4, .null), (5, .int (nI c9))] → W p l e ((headSpec (.code yX4_holdsCorner cX4_holdsCorner 10 (some .boolean) :: ws0) ({ frames := 1, cells := 0, slots := 0, locals := 26 } : Room)).room) s m ([.ref lw, .ref u, .ref r, .int (nI a9), .null, .int (nI c9)] : List Value).toArray below meth c H locs 0 0 Q9 (F0 m 3 ls []) := by
    intro n9
    induction n9 with
    | zero => intro k H locs ls hm; exact absurd hm (Nat.not_lt_zero _)
    | succ n9 ih_3 =>
      intro k H locs ls hm hk hno hP hD hS hl
      refine lv_iload hx hb dX4_holdsCorner_3 (lv_at hl 0 rfl) ?_
      refine lv_aload_n hx hb dX4_holdsCorner_5 rfl (lv_at hl 2 rfl) ?_
      refine va_get (D := (dC, dI)) (ci := 6) (v := .int (nI m2)) (C := RX7) (T := TX7) (N := 4) hx hb hts inX7 hown hK hP 4 rfl rfl 2 (by decide) (hts _ mw_176) (fun _ h9 => h9) rfl dX4_holdsCorner_6 ?_
      refine lv_icmp_ge (tgt := 99) hx hb dX4_holdsCorner_9 (by decide) (fun c_1 => ?_) (fun c_1 => ?_)
      · have c_1 : ((m2 : Nat) : Int) ≤ ((k : Nat) : Int) := zc_le (nI_toInt (by omega)) (nI_toInt (by omega)) c_1
        refine lv_iconst (v := 0) hx hb dX4_holdsCorner_99 (by decide) ?_
        have hP9 := hP.sub (ws' := [(oc3 lw (.ref dr) (.ref tg) (.ref wy) (.ref br) (.ref bo) (.ref aa)), (oc6 tg (.ref tx) (.ref ty) (nI 3) 1), (oa tx cI 3 TX), (oa ty cI 3 TY), (oc6 u (.ref ux) (.ref uy) (nI m2) rh), (oa ux cI cap2 U), (oa uy cI cap2 V), (oc6 r (.ref rx) (.ref ry) (nI n) rg), (oa rx cI cap X), (oa ry cI cap Y)]) [0, 1, 2, 3, 4, 5, 6, 7, 8, 9] rfl
        have hD9 := hD.sub (ws' := [(oc3 lw (.ref dr) (.ref tg) (.ref wy) (.ref br) (.ref bo) (.ref aa)), (oc6 tg (.ref tx) (.ref ty) (nI 3) 1), (oa tx cI 3 TX), (oa ty cI 3 TY), (oc6 u (.ref ux) (.ref uy) (nI m2) rh), (oa ux cI cap2 U), (oa uy cI cap2 V), (oc6 r (.ref rx) (.ref ry) (nI n) rg), (oa rx cI cap X), (oa ry cI cap Y)]) [0, 1, 2, 3, 4, 5, 6, 7, 8, 9] (by decide) rfl
        rw [hQ9]
        exact W.zret (ty := .boolean) (v := 0) hx hb hr (rfl) (fun t ht hW => ⟨⟨congrArg (fun z => Outcome.returned (some (Value.int z))) (show (0 : Int32) = pI (∃ j7, j7 < m2 ∧ ¬ ((X a9).toInt = (U j7).toInt ∧ (Y a9).toInt = (V j7).toInt) ∧ ¬ (whr 3 TX TY (U j7).toInt (V j7).toInt).toInt = 0) from (zp_f (fun ⟨j, hj, h⟩ => hno j (by omega) h)).symm), by rw [ht]; exact hP9, hD9⟩, hS.F ht⟩) hS.2.2 dX4_holdsCorner_100
      · have c_1 : ((k : Nat) : Int) < ((m2 : Nat) : Int) := zc_nle (nI_toInt (by omega)) (nI_toInt (by omega)) c_1
        refine lv_aload_n hx hb dX4_holdsCorner_12 rfl (lv_at hl 2 rfl) ?_
        refine va_get (D := (dC, dI)) (ci := 6) (v := .ref ux) (C := RX7) (T := TX7) (N := 4) hx hb hts inX7 hown hK hP 4 rfl rfl 0 (by decide) (hts _ mw_163) (fun _ h9 => h9) rfl dX4_holdsCorner_13 ?_
        refine lv_iload hx hb dX4_holdsCorner_16 (lv_at hl 0 rfl) ?_
        refine z_iald hx hb hK hP 5 0 rfl rfl (e := k) rfl (by omega) (by omega) dX4_holdsCorner_18 ?_
        refine lv_istore (lv' := [(7, .int (U k)), (6, .int (nI k)), (0, .ref lw), (1, .ref u), (2, .ref r), (3, .int (nI a9)), (4, .null), (5, .int (nI c9))]) hx hb dX4_holdsCorner_19 hl (by decide) rfl (fun ls hl => ?_)
        refine lv_aload_n hx hb dX4_holdsCorner_21 rfl (lv_at hl 3 rfl) ?_
        refine va_get (D := (dC, dI)) (ci := 6) (v := .ref uy) (C := RX7) (T := TX7) (N := 4) hx hb hts inX7 hown hK hP 4 rfl rfl 1 (by decide) (hts _ mw_170) (fun _ h9 => h9) rfl dX4_holdsCorner_22 ?_
        refine lv_iload hx hb dX4_holdsCorner_25 (lv_at hl 1 rfl) ?_
        refine z_iald hx hb hK hP 6 0 rfl rfl (e := k) rfl (by omega) (by omega) dX4_holdsCorner_27 ?_
        refine lv_istore (lv' := [(8, .int (V k)), (7, .int (U k)), (6, .int (nI k)), (0, .ref lw), (1, .ref u), (2, .ref r), (3, .int (nI a9)), (4, .null), (5, .int (nI c9))]) hx hb dX4_holdsCorner_28 hl (by decide) rfl (fun ls hl => ?_)
        refine lv_aload_n hx hb dX4_holdsCorner_30 rfl (lv_at hl 5 rfl) ?_
        refine lv_ifnull hx hb dX4_holdsCorner_31 ?_
        refine lv_aload_n hx hb dX4_holdsCorner_34 rfl (lv_at hl 5 rfl) ?_
        refine lv_iload_n hx hb dX4_holdsCorner_35 rfl (lv_at hl 6 rfl) ?_
        refine lv_iload hx hb dX4_holdsCorner_36 (lv_at hl 1 rfl) ?_
        refine lv_iload hx hb dX4_holdsCorner_38 (lv_at hl 0 rfl) ?_
        have hPc := hP.sub (ws' := [(oc6 r (.ref rx) (.ref ry) (nI n) rg), (oa rx cI cap X), (oa ry cI cap Y)]) [7, 8, 9] rfl
        have hDc := hD.sub (ws' := [(oc6 r (.ref rx) (.ref ry) (nI n) rg), (oa rx cI cap X), (oa ry cI cap Y)]) [7, 8, 9] (by decide) rfl
        have hFc := va_free (wc := [(oc6 r (.ref rx) (.ref ry) (nI n) rg), (oa rx cI cap X), (oa ry cI cap Y)]) hD hS hA [7, 8, 9] rfl
        refine zcall (st1 := [.int (pI ((X a9).toInt = (U k).toInt ∧ (Y a9).toInt = (V k).toInt))]) (va_runV (As := [.int (nI a9), .int (U k), .int (V k)]) (rest := []) ⟨hx, hb, hml, hown, hts⟩ (k_Row_isCorner l dC dI cI cZ cF H.size r rx ry n cap X Y rg a9 (U k) (V k) (by omega) (by omega) (by omega)) (cwV 3 hts (zz_gV mw_713 mw_541 mw_542 mw_102 mc_yX7_isCorner) rfl rfl rfl (by decide +kernel) ⟨Nat.le_of_ble_eq_true rfl, Nat.le_of_ble_eq_true rfl⟩) (zPV2 (q0 := 0) (ci := 6) hPc hDc hK hXN rfl rfl) rfl rfl hl.1 rfl (lv_room (Nat.le_of_ble_eq_true rfl)) dX4_holdsCorner_40 ⟨Nat.le_of_ble_eq_true rfl, Nat.le_of_ble_eq_true rfl⟩) hS hFc hFc rfl (fun t H1 locs ht hB hk1 hS => ?_)
        obtain ⟨hP1, hD1⟩ := hB
        rw [ht] at hP1
        obtain ⟨hP, hD⟩ := va_join (wr := [(oc3 lw (.ref dr) (.ref tg) (.ref wy) (.ref br) (.ref bo) (.ref aa)), (oc6 tg (.ref tx) (.ref ty) (nI 3) 1), (oa tx cI 3 TX), (oa ty cI 3 TY), (oc6 u (.ref ux) (.ref uy) (nI m2) rh), (oa ux cI cap2 U), (oa uy cI cap2 V)]) (w1 := [(oc6 r (.ref rx) (.ref ry) (nI n) rg), (oa rx cI cap X), (oa ry cI cap Y)]) hP hD [7, 8, 9] [0, 1, 2, 3, 4, 5, 6] rfl rfl (by decide) (by decide) hk1 hFc hP1 hD1
        clear hk1 hPc hDc hFc hP1 hD1 ht
        generalize H1 = H at hP hS ⊢
        have hP : va_P (dC, dI) classes [(oc3 lw (.ref dr) (.ref tg) (.ref wy) (.ref br) (.ref bo) (.ref aa)), (oc6 tg (.ref tx) (.ref ty) (nI 3) 1), (oa tx cI 3 TX), (oa ty cI 3 TY), (oc6 u (.ref ux) (.ref uy) (nI m2) rh), (oa ux cI cap2 U), (oa uy cI cap2 V), (oc6 r (.ref rx) (.ref ry) (nI n) rg), (oa rx cI cap X), (oa ry cI cap Y)] H := hP
        have hD : va_D A [(oc3 lw (.ref dr) (.ref tg) (.ref wy) (.ref br) (.ref bo) (.ref aa)), (oc6 tg (.ref tx) (.ref ty) (nI 3) 1), (oa tx cI 3 TX), (oa ty cI 3 TY), (oc6 u (.ref ux) (.ref uy) (nI m2) rh), (oa ux cI cap2 U), (oa uy cI cap2 V), (oc6 r (.ref rx) (.ref ry) (nI n) rg), (oa rx cI cap X), (oa ry cI cap Y)] := hD
        refine lv_if_ne (tgt := 65) hx hb dX4_holdsCorner_43 (by decide) (fun c_2 => ?_) (fun c_2 => ?_)
        · have c_2 : (X a9).toInt = (U k).toInt ∧ (Y a9).toInt = (V k).toInt := zp_1 c_2
          refine lv_iconst (v := 1) hx hb dX4_holdsCorner_65 (by decide) ?_
          refine lv_goto (tgt := 70) hx hb dX4_holdsCorner_66 (by decide) ?_
          refine lv_istore (lv' := [(9, .int 1), (8, .int (V k)), (7, .int (U k)), (6, .int (nI k)), (0, .ref lw), (1, .ref u), (2, .ref r), (3, .int (nI a9)), (4, .null), (5, .int (nI c9))]) hx hb dX4_holdsCorner_70 hl (by decide) rfl (fun ls hl => ?_)
          refine lv_iload hx hb dX4_holdsCorner_72 (lv_at hl 0 rfl) ?_
          refine lv_if_ne (tgt := 93) hx hb dX4_holdsCorner_74 (by decide) (fun c_3 => ?_) (fun c_3 => ?_)
          · refine lv_iinc (v := nI (k + 1)) (lv' := [(6, .int (nI (k + 1))), (9, .int 1), (8, .int (V k)), (7, .int (U k)), (0, .ref lw), (1, .ref u), (2, .ref r), (3, .int (nI a9)), (4, .null), (5, .int (nI c9))]) hx hb dX4_holdsCorner_93 hl (k := 3) rfl (nI_add k 1) (by decide) rfl (fun ls hl => ?_)
            refine lv_goto (tgt := 3) hx hb dX4_holdsCorner_96 (by decide) ?_
            exact ih_3 (k + 1) H locs ls (by omega) (by omega) (by intro j hj; rcases Nat.lt_or_ge j k with h | h; exact hno j h; rw [show j = k by omega]; first | exact fun h => absurd (by assumption) h.1 | exact fun h => absurd (by assumption) h.2) hP hD hS (lv_sub hl [0, 4, 5, 6, 7, 8, 9] rfl)
          · exact absurd c_3 (by decide)
        · have c_2 : ¬ ((X a9).toInt = (U k).toInt ∧ (Y a9).toInt = (V k).toInt) := zp_0 c_2
          refine lv_aloadN hx hb dX4_holdsCorner_46 (lv_at hl 7 rfl) ?_
          refine lv_ifnullN (tgt := 69) hx hb dX4_holdsCorner_48 (by decide) ?_
          refine lv_iconst (v := 0) hx hb dX4_holdsCorner_69 (by decide) ?_
          refine lv_istore (lv' := [(9, .int 0), (8, .int (V k)), (7, .int (U k)), (6, .int (nI k)), (0, .ref lw), (1, .ref u), (2, .ref r), (3, .int (nI a9)), (4, .null), (5, .int (nI c9))]) hx hb dX4_holdsCorner_70 hl (by decide) rfl (fun ls hl => ?_)
          refine lv_iload hx hb dX4_holdsCorner_72 (lv_at hl 0 rfl) ?_
          refine lv_if_ne (tgt := 93) hx hb dX4_holdsCorner_74 (by decide) (fun c_4 => ?_) (fun c_4 => ?_)
          · exact absurd (by decide) c_4
          · refine lv_aload_n hx hb dX4_holdsCorner_77 rfl (lv_at hl 4 rfl) ?_
            refine va_get (D := (dC, dI)) (ci := 3) (v := .ref tg) (C := RX4) (T := TX4) (N := 6) hx hb hts inX4 hown hK hP 0 rfl rfl 1 (by decide) (hts _ mw_221) (fun _ h9 => h9) rfl dX4_holdsCorner_78 ?_
            refine lv_iload hx hb dX4_holdsCorner_81 (lv_at hl 2 rfl) ?_
            refine lv_iload hx hb dX4_holdsCorner_83 (lv_at hl 1 rfl) ?_
            have hPc := hP.sub (ws' := [(oc6 tg (.ref tx) (.ref ty) (nI 3) 1), (oa tx cI 3 TX), (oa ty cI 3 TY)]) [1, 2, 3] rfl
            have hDc := hD.sub (ws' := [(oc6 tg (.ref tx) (.ref ty) (nI 3) 1), (oa tx cI 3 TX), (oa ty cI 3 TY)]) [1, 2, 3] (by decide) rfl
            have hFc := va_free (wc := [(oc6 tg (.ref tx) (.ref ty) (nI 3) 1), (oa tx cI 3 TX), (oa ty cI 3 TY)]) hD hS hA [1, 2, 3] rfl
            refine zcall (st1 := [.int (whr 3 TX TY (U k).toInt (V k).toInt)]) (va_runV (As := [.int (U k), .int (V k)]) (rest := []) ⟨hx, hb, hml, hown, hts⟩ (k_Row_where l dC dI cI cZ cF H.size tg tx ty 3 3 TX TY 1 (U k) (V k) (by omega) (by omega) (hpt) ((hq k (by omega)).1) ((hq k (by omega)).2)) (cwV 2 hts (zz_gV mw_687 mw_688 mw_689 mw_102 mc_yX7_where) rfl rfl rfl (by decide +kernel) ⟨Nat.le_of_ble_eq_true rfl, Nat.le_of_ble_eq_true rfl⟩) (zPV2 (q0 := 0) (ci := 6) hPc hDc hK hXN rfl rfl) rfl rfl hl.1 rfl (lv_room (Nat.le_of_ble_eq_true rfl)) dX4_holdsCorner_85 ⟨Nat.le_of_ble_eq_true rfl, Nat.le_of_ble_eq_true rfl⟩) hS hFc hFc rfl (fun t H1 locs ht hB hk1 hS => ?_)
            obtain ⟨hP1, hD1⟩ := hB
            rw [ht] at hP1
            obtain ⟨hP, hD⟩ := va_join (wr := [(oc3 lw (.ref dr) (.ref tg) (.ref wy) (.ref br) (.ref bo) (.ref aa)), (oc6 u (.ref ux) (.ref uy) (nI m2) rh), (oa ux cI cap2 U), (oa uy cI cap2 V), (oc6 r (.ref rx) (.ref ry) (nI n) rg), (oa rx cI cap X), (oa ry cI cap Y)]) (w1 := [(oc6 tg (.ref tx) (.ref ty) (nI 3) 1), (oa tx cI 3 TX), (oa ty cI 3 TY)]) hP hD [1, 2, 3] [0, 4, 5, 6, 7, 8, 9] rfl rfl (by decide) (by decide) hk1 hFc hP1 hD1
            clear hk1 hPc hDc hFc hP1 hD1 ht
            generalize H1 = H at hP hS ⊢
            have hP := hP.sub (ws' := [(oc3 lw (.ref dr) (.ref tg) (.ref wy) (.ref br) (.ref bo) (.ref aa)), (oc6 tg (.ref tx) (.ref ty) (nI 3) 1), (oa tx cI 3 TX), (oa ty cI 3 TY), (oc6 u (.ref ux) (.ref uy) (nI m2) rh), (oa ux cI cap2 U), (oa uy cI cap2 V), (oc6 r (.ref rx) (.ref ry) (nI n) rg), (oa rx cI cap X), (oa ry cI cap Y)]) [0, 7, 8, 9, 1, 2, 3, 4, 5, 6] rfl
            have hD := hD.sub (ws' := [(oc3 lw (.ref dr) (.ref tg) (.ref wy) (.ref br) (.ref bo) (.ref aa)), (oc6 tg (.ref tx) (.ref ty) (nI 3) 1), (oa tx cI 3 TX), (oa ty cI 3 TY), (oc6 u (.ref ux) (.ref uy) (nI m2) rh), (oa ux cI cap2 U), (oa uy cI cap2 V), (oc6 r (.ref rx) (.ref ry) (nI n) rg), (oa rx cI cap X), (oa ry cI cap Y)]) [0, 7, 8, 9, 1, 2, 3, 4, 5, 6] (by decide) rfl
            have hP : va_P (dC, dI) classes [(oc3 lw (.ref dr) (.ref tg) (.ref wy) (.ref br) (.ref bo) (.ref aa)), (oc6 tg (.ref tx) (.ref ty) (nI 3) 1), (oa tx cI 3 TX), (oa ty cI 3 TY), (oc6 u (.ref ux) (.ref uy) (nI m2) rh), (oa ux cI cap2 U), (oa uy cI cap2 V), (oc6 r (.ref rx) (.ref ry) (nI n) rg), (oa rx cI cap X), (oa ry cI cap Y)] H := hP
            have hD : va_D A [(oc3 lw (.ref dr) (.ref tg) (.ref wy) (.ref br) (.ref bo) (.ref aa)), (oc6 tg (.ref tx) (.ref ty) (nI 3) 1), (oa tx cI 3 TX), (oa ty cI 3 TY), (oc6 u (.ref ux) (.ref uy) (nI m2) rh), (oa ux cI cap2 U), (oa uy cI cap2 V), (oc6 r (.ref rx) (.ref ry) (nI n) rg), (oa rx cI cap X), (oa ry cI cap Y)] := hD
            refine lv_if_eq (tgt := 93) hx hb dX4_holdsCorner_88 (by decide) (fun c_5 => ?_) (fun c_5 => ?_)
            · have c_5 : (whr 3 TX TY (U k).toInt (V k).toInt).toInt = 0 := zc_eq rfl (by decide) c_5
              refine lv_iinc (v := nI (k + 1)) (lv' := [(6, .int (nI (k + 1))), (9, .int 0), (8, .int (V k)), (7, .int (U k)), (0, .ref lw), (1, .ref u), (2, .ref r), (3, .int (nI a9)), (4, .null), (5, .int (nI c9))]) hx hb dX4_holdsCorner_93 hl (k := 3) rfl (nI_add k 1) (by decide) rfl (fun ls hl => ?_)
              refine lv_goto (tgt := 3) hx hb dX4_holdsCorner_96 (by decide) ?_
              exact ih_3 (k + 1) H locs ls (by omega) (by omega) (by intro j hj; rcases Nat.lt_or_ge j k with h | h; exact hno j h; rw [show j = k by omega]; first | exact fun h => absurd (by assumption) h.1 | exact fun h => absurd (by assumption) h.2) hP hD hS (lv_sub hl [0, 4, 5, 6, 7, 8, 9] rfl)
            · have c_5 : ¬ (whr 3 TX TY (U k).toInt (V k).toInt).toInt = 0 := zc_ne rfl (by decide) c_5
              refine lv_iconst (v := 1) hx hb dX4_holdsCorner_91 (by decide) ?_
              have hP9 := hP.sub (ws' := [(oc3 lw (.ref dr) (.ref tg) (.ref wy) (.ref br) (.ref bo) (.ref aa)), (oc6 tg (.ref tx) (.ref ty) (nI 3) 1), (oa tx cI 3 TX), (oa ty cI 3 TY), (oc6 u (.ref ux) (.ref uy) (nI m2) rh), (oa ux cI cap2 U), (oa uy cI cap2 V), (oc6 r (.ref rx) (.ref ry) (nI n) rg), (oa rx cI cap X), (oa ry cI cap Y)]) [0, 1, 2, 3, 4, 5, 6, 7, 8, 9] rfl
              have hD9 := hD.sub (ws' := [(oc3 lw (.ref dr) (.ref tg) (.ref wy) (.ref br) (.ref bo) (.ref aa)), (oc6 tg (.ref tx) (.ref ty) (nI 3) 1), (oa tx cI 3 TX), (oa ty cI 3 TY), (oc6 u (.ref ux) (.ref uy) (nI m2) rh), (oa ux cI cap2 U), (oa uy cI cap2 V), (oc6 r (.ref rx) (.ref ry) (nI n) rg), (oa rx cI cap X), (oa ry cI cap Y)]) [0, 1, 2, 3, 4, 5, 6, 7, 8, 9] (by decide) rfl
              rw [hQ9]
              exact W.zret (ty := .boolean) (v := 1) hx hb hr (rfl) (fun t ht hW => ⟨⟨congrArg (fun z => Outcome.returned (some (Value.int z))) (show (1 : Int32) = pI (∃ j7, j7 < m2 ∧ ¬ ((X a9).toInt = (U j7).toInt ∧ (Y a9).toInt = (V j7).toInt) ∧ ¬ (whr 3 TX TY (U j7).toInt (V j7).toInt).toInt = 0) from (zp_t (⟨k, by omega, by assumption, by assumption⟩)).symm), by rw [ht]; exact hP9, hD9⟩, hS.F ht⟩) hS.2.2 dX4_holdsCorner_92
  exact hl_3 _ 0 s.heap [] ls (Nat.lt_succ_self _) (by omega) (by intro j hj; omega) hP hD hS (lv_sub hl [0, 1, 2, 3, 4, 5, 6] rfl)
set_option maxHeartbeats 4000000 in
set_option maxRecDepth 100000 in
theorem k_Law_holdsCorner_nr (l : Launch) (dC : Nat → ClassId) (dI : Nat → Nat → Nat) (cI cZ cF : ClassId) (sz : Nat) (lw : Nat) (dr : Nat) (tg : Nat) (wy : Nat) (br : Nat) (bo : Nat) (aa : Nat) (tx : Nat) (ty : Nat) (TX : Nat → Int32) (TY : Nat → Int32) (u : Nat) (ux : Nat) (uy : Nat) (m2 : Nat) (cap2 : Nat) (U : Nat → Int32) (V : Nat → Int32) (rh : Int32) (r : Nat) (rx : Nat) (ry : Nat) (n : Nat) (cap : Nat) (X : Nat → Int32) (Y : Nat → Int32) (rg : Int32) (a9 : Nat) (c9 : Nat) (hn : n ≤ cap) (hcap : cap ≤ 1000) (hm : m2 ≤ cap2) (hcap2 : cap2 ≤ 1000) (hq : pls m2 U V) (hpt : pls 3 TX TY) (hc9 : c9 < n) : Met l yX4_holdsCorner (.code yX4_holdsCorner cX4_holdsCorner 10 (some .boolean) :: ws0) ({ frames := 1, cells := 0, slots := 0, locals := 26 } : Room) (va_Pc [.ref lw, .ref u, .null, .int (nI a9), .ref r, .int (nI c9)] (zPre (dC, dI) classes (zTy cI cZ cF) [(oc3 lw (.ref dr) (.ref tg) (.ref wy) (.ref br) (.ref bo) (.ref aa)), (oc6 tg (.ref tx) (.ref ty) (nI 3) 1), (oa tx cI 3 TX), (oa ty cI 3 TY), (oc6 u (.ref ux) (.ref uy) (nI m2) rh), (oa ux cI cap2 U), (oa uy cI cap2 V), (oc6 r (.ref rx) (.ref ry) (nI n) rg), (oa rx cI cap X), (oa ry cI cap Y)] sz zXN)) (zQ (some (.int (pI (∃ j7, j7 < m2 ∧ ¬ ((X c9).toInt = (U j7).toInt ∧ (Y c9).toInt = (V j7).toInt) ∧ ¬ (whr 3 TX TY (U j7).toInt (V j7).toInt).toInt = 0)))) (fun t => va_P (dC, dI) classes [(oc3 lw (.ref dr) (.ref tg) (.ref wy) (.ref br) (.ref bo) (.ref aa)), (oc6 tg (.ref tx) (.ref ty) (nI 3) 1), (oa tx cI 3 TX), (oa ty cI 3 TY), (oc6 u (.ref ux) (.ref uy) (nI m2) rh), (oa ux cI cap2 U), (oa uy cI cap2 V), (oc6 r (.ref rx) (.ref ry) (nI n) rg), (oa rx cI cap X), (oa ry cI cap Y)] t.heap ∧ va_D (va_A [(oc3 lw (.ref dr) (.ref tg) (.ref wy) (.ref br) (.ref bo) (.ref aa)), (oc6 tg (.ref tx) (.ref ty) (nI 3) 1), (oa tx cI 3 TX), (oa ty cI 3 TY), (oc6 u (.ref ux) (.ref uy) (nI m2) rh), (oa ux cI cap2 U), (oa uy cI cap2 V), (oc6 r (.ref rx) (.ref ry) (nI n) rg), (oa rx cI cap X), (oa ry cI cap Y)] sz) [(oc3 lw (.ref dr) (.ref tg) (.ref wy) (.ref br) (.ref bo) (.ref aa)), (oc6 tg (.ref tx) (.ref ty) (nI 3) 1), (oa tx cI 3 TX), (oa ty cI 3 TY), (oc6 u (.ref ux) (.ref uy) (nI m2) rh), (oa ux cI cap2 U), (oa uy cI cap2 V), (oc6 r (.ref rx) (.ref ry) (nI n) rg), (oa rx cI cap X), (oa ry cI cap Y)]) (va_A [(oc3 lw (.ref dr) (.ref tg) (.ref wy) (.ref br) (.ref bo) (.ref aa)), (oc6 tg (.ref tx) (.ref ty) (nI 3) 1), (oa tx cI 3 TX), (oa ty cI 3 TY), (oc6 u (.ref ux) (.ref uy) (nI m2) rh), (oa ux cI cap2 U), (oa uy cI cap2 V), (oc6 r (.ref rx) (.ref ry) (nI n) rg), (oa rx cI cap X), (oa ry cI cap Y)] sz)) 0 0 (va_A [(oc3 lw (.ref dr) (.ref tg) (.ref wy) (.ref br) (.ref bo) (.ref aa)), (oc6 tg (.ref tx) (.ref ty) (nI 3) 1), (oa tx cI 3 TX), (oa ty cI 3 TY), (oc6 u (.ref ux) (.ref uy) (nI m2) rh), (oa ux cI cap2 U), (oa uy cI cap2 V), (oc6 r (.ref rx) (.ref ry) (nI n) rg), (oa rx cI cap X), (oa ry cI cap Y)] sz) := by
  refine Met.ofW (cc := cX4_holdsCorner) (maxL := 10) (ret := (some .boolean)) (by decide) rfl ?_
  intro p e s m args below meth c s₁ B hml hv
  obtain ⟨rfl, hsz, hP, hK, hD0, hXN⟩ := hv
  have hx := B.exec
  have hb := B.bytes
  have hr := B.returns
  have hts0 := atoms_spec (ws := .code yX4_holdsCorner cX4_holdsCorner 10 (some .boolean) :: ws0) B.pre
  have hts : ∀ w9 ∈ ws0, w9.before ([.ref lw, .ref u, .null, .int (nI a9), .ref r, .int (nI c9)] : List Value).toArray s = true := fun w9 h => hts0 w9 (List.mem_cons_of_mem _ h)
  have hown : s.vm.findClass "ScaleShop$Law" = some m.cls := findClass_of_methodNamed B.named
  have hlocks := B.notSynchronized
  subst hsz
  have hD := hD0.self (sz := s.heap.size)
  clear hD0
  generalize hAe : va_A [(oc3 lw (.ref dr) (.ref tg) (.ref wy) (.ref br) (.ref bo) (.ref aa)), (oc6 tg (.ref tx) (.ref ty) (nI 3) 1), (oa tx cI 3 TX), (oa ty cI 3 TY), (oc6 u (.ref ux) (.ref uy) (nI m2) rh), (oa ux cI cap2 U), (oa uy cI cap2 V), (oc6 r (.ref rx) (.ref ry) (nI n) rg), (oa rx cI cap X), (oa ry cI cap Y)] s.heap.size = A at hD ⊢
  have hA : ∀ q : Nat, s.heap.size ≤ q → A q := fun q h => by rw [← hAe]; exact Or.inr h
  clear hAe
  have hS : va_S A s.heap s.heap [] := va_S.rf
  have hP : va_P (dC, dI) classes [(oc3 lw (.ref dr) (.ref tg) (.ref wy) (.ref br) (.ref bo) (.ref aa)), (oc6 tg (.ref tx) (.ref ty) (nI 3) 1), (oa tx cI 3 TX), (oa ty cI 3 TY), (oc6 u (.ref ux) (.ref uy) (nI m2) rh), (oa ux cI cap2 U), (oa uy cI cap2 V), (oc6 r (.ref rx) (.ref ry) (nI n) rg), (oa rx cI cap X), (oa ry cI cap Y)] s.heap := hP
  obtain ⟨Q9, hQ9⟩ : ∃ Q9 : State → Prop, Q9 = MQ below (zQ (some (.int (pI (∃ j7, j7 < m2 ∧ ¬ ((X c9).toInt = (U j7).toInt ∧ (Y c9).toInt = (V j7).toInt) ∧ ¬ (whr 3 TX TY (U j7).toInt (V j7).toInt).toInt = 0)))) (fun t => va_P (dC, dI) classes [(oc3 lw (.ref dr) (.ref tg) (.ref wy) (.ref br) (.ref bo) (.ref aa)), (oc6 tg (.ref tx) (.ref ty) (nI 3) 1), (oa tx cI 3 TX), (oa ty cI 3 TY), (oc6 u (.ref ux) (.ref uy) (nI m2) rh), (oa ux cI cap2 U), (oa uy cI cap2 V), (oc6 r (.ref rx) (.ref ry) (nI n) rg), (oa rx cI cap X), (oa ry cI cap Y)] t.heap ∧ va_D A [(oc3 lw (.ref dr) (.ref tg) (.ref wy) (.ref br) (.ref bo) (.ref aa)), (oc6 tg (.ref tx) (.ref ty) (nI 3) 1), (oa tx cI 3 TX), (oa ty cI 3 TY), (oc6 u (.ref ux) (.ref uy) (nI m2) rh), (oa ux cI cap2 U), (oa uy cI cap2 V), (oc6 r (.ref rx) (.ref ry) (nI n) rg), (oa rx cI cap X), (oa ry cI cap Y)]) A) ([.ref lw, .ref u, .null, .int (nI a9), .ref r, .int (nI c9)] : List Value).toArray s 0 0 A := ⟨_, rfl⟩
  rw [← hQ9]
  have hl := lv_entry ([.ref lw, .ref u, .null, .int (nI a9), .ref r, .int (nI c9)]) (n := 10) (Nat.le_of_ble_eq_true rfl)
  rw [lg_entry_eq]
  generalize (lg_sl ([.ref lw, .ref u, .null, .int (nI a9), .ref r, .int (nI c9)]) ++ List.replicate (10 - (lg_sl ([.ref lw, .ref u, .null, .int (nI a9), .ref r, .int (nI c9)])).length) Slot.unset).toArray = ls at hl ⊢
  have hl : lv_has ls 10 [(0, .ref lw), (1, .ref u), (2, .null), (3, .int (nI a9)), (4, .ref r), (5, .int (nI c9))] := hl
  refine lv_iconst (v := 0) hx hb dX4_holdsCorner_0 (by decide) ?_
  refine lv_istore (lv' := [(6, .int 0), (0, .ref lw), (1, .ref u), (2, .null), (3, .int (nI a9)), (4, .ref r), (5, .int (nI c9))]) hx hb dX4_holdsCorner_1 hl (by decide) rfl (fun ls hl => ?_)
  have hl_3 : ∀ (n9 : Nat) (k : Nat) (H : Heap) (locs : List Loc) (ls : Array Slot), m2 - k < n9 → (k ≤ m2) → (∀ j, j < k → ¬ (¬ ((X c9).toInt = (U j).toInt ∧ (Y c9).toInt = (V j).toInt) ∧ ¬ (whr 3 TX TY (U j).toInt (V j).toInt).toInt = 0)) → va_P (dC, dI) classes [(oc3 lw (.ref dr) (.ref tg) (.ref wy) (.ref br) (.ref bo) (.ref aa)), (oc6 tg (.ref tx) (.ref ty) (nI 3) 1), (oa tx cI 3 TX), (oa ty cI 3 TY), (oc6 u (.ref ux) (.ref uy) (nI m2) rh), (oa ux cI cap2 U), (oa uy cI cap2 V), (oc6 r (.ref rx) (.ref ry) (nI n) rg), (oa rx cI cap X), (oa ry cI cap Y)] H → va_D A [(oc3 lw (.ref dr) (.ref tg) (.ref wy) (.ref br) (.ref bo) (.ref aa)), (oc6 tg (.ref tx) (.ref ty) (nI 3) 1), (oa tx cI 3 TX), (oa ty cI 3 TY), (oc6 u (.ref ux) (.ref uy) (nI m2) rh), (oa ux cI cap2 U), (oa uy cI cap2 V), (oc6 r (.ref rx) (.ref ry) (nI n) rg), (oa rx cI cap X), (oa ry cI cap Y)] → va_S A s.heap H locs → lv_has ls 10 [(6, .int (nI k)), (0, .ref lw), (1, .ref u), (2, .null), (3, .int (nI a9)), (4, .ref r), (5, .int (nI c9))] → W p l e ((headSpec (.code yX4_holdsCorner cX4_holdsCorner 10 (some .boolean) :: ws0) ({ frames := 1, cells := 0, slots := 0, locals := 26 } : Room)).room) s m ([.ref lw, .ref u, .null, .int (nI a9), .ref r, .int (nI c9)] : List Value).toArray below meth c H locs 0 0 Q9 (F0 m 3 ls []) := by
    intro n9
    induction n9 with
    | zero => intro k H locs ls hm; exact absurd hm (Nat.not_lt_zero _)
    | succ n9 ih_3 =>
      intro k H locs ls hm hk hno hP hD hS hl
      refine lv_iload hx hb dX4_holdsCorner_3 (lv_at hl 0 rfl) ?_
      refine lv_aload_n hx hb dX4_holdsCorner_5 rfl (lv_at hl 2 rfl) ?_
      refine va_get (D := (dC, dI)) (ci := 6) (v := .int (nI m2)) (C := RX7) (T := TX7) (N := 4) hx hb hts inX7 hown hK hP 4 rfl rfl 2 (by decide) (hts _ mw_176) (fun _ h9 => h9) rfl dX4_holdsCorner_6 ?_
      refine lv_icmp_ge (tgt := 99) hx hb dX4_holdsCorner_9 (by decide) (fun c_1 => ?_) (fun c_1 => ?_)
      · have c_1 : ((m2 : Nat) : Int) ≤ ((k : Nat) : Int) := zc_le (nI_toInt (by omega)) (nI_toInt (by omega)) c_1
        refine lv_iconst (v := 0) hx hb dX4_holdsCorner_99 (by decide) ?_
        have hP9 := hP.sub (ws' := [(oc3 lw (.ref dr) (.ref tg) (.ref wy) (.ref br) (.ref bo) (.ref aa)), (oc6 tg (.ref tx) (.ref ty) (nI 3) 1), (oa tx cI 3 TX), (oa ty cI 3 TY), (oc6 u (.ref ux) (.ref uy) (nI m2) rh), (oa ux cI cap2 U), (oa uy cI cap2 V), (oc6 r (.ref rx) (.ref ry) (nI n) rg), (oa rx cI cap X), (oa ry cI cap Y)]) [0, 1, 2, 3, 4, 5, 6, 7, 8, 9] rfl
        have hD9 := hD.sub (ws' := [(oc3 lw (.ref dr) (.ref tg) (.ref wy) (.ref br) (.ref bo) (.ref aa)), (oc6 tg (.ref tx) (.ref ty) (nI 3) 1), (oa tx cI 3 TX), (oa ty cI 3 TY), (oc6 u (.ref ux) (.ref uy) (nI m2) rh), (oa ux cI cap2 U), (oa uy cI cap2 V), (oc6 r (.ref rx) (.ref ry) (nI n) rg), (oa rx cI cap X), (oa ry cI cap Y)]) [0, 1, 2, 3, 4, 5, 6, 7, 8, 9] (by decide) rfl
        rw [hQ9]
        exact W.zret (ty := .boolean) (v := 0) hx hb hr (rfl) (fun t ht hW => ⟨⟨congrArg (fun z => Outcome.returned (some (Value.int z))) (show (0 : Int32) = pI (∃ j7, j7 < m2 ∧ ¬ ((X c9).toInt = (U j7).toInt ∧ (Y c9).toInt = (V j7).toInt) ∧ ¬ (whr 3 TX TY (U j7).toInt (V j7).toInt).toInt = 0) from (zp_f (fun ⟨j, hj, h⟩ => hno j (by omega) h)).symm), by rw [ht]; exact hP9, hD9⟩, hS.F ht⟩) hS.2.2 dX4_holdsCorner_100
      · have c_1 : ((k : Nat) : Int) < ((m2 : Nat) : Int) := zc_nle (nI_toInt (by omega)) (nI_toInt (by omega)) c_1
        refine lv_aload_n hx hb dX4_holdsCorner_12 rfl (lv_at hl 2 rfl) ?_
        refine va_get (D := (dC, dI)) (ci := 6) (v := .ref ux) (C := RX7) (T := TX7) (N := 4) hx hb hts inX7 hown hK hP 4 rfl rfl 0 (by decide) (hts _ mw_163) (fun _ h9 => h9) rfl dX4_holdsCorner_13 ?_
        refine lv_iload hx hb dX4_holdsCorner_16 (lv_at hl 0 rfl) ?_
        refine z_iald hx hb hK hP 5 0 rfl rfl (e := k) rfl (by omega) (by omega) dX4_holdsCorner_18 ?_
        refine lv_istore (lv' := [(7, .int (U k)), (6, .int (nI k)), (0, .ref lw), (1, .ref u), (2, .null), (3, .int (nI a9)), (4, .ref r), (5, .int (nI c9))]) hx hb dX4_holdsCorner_19 hl (by decide) rfl (fun ls hl => ?_)
        refine lv_aload_n hx hb dX4_holdsCorner_21 rfl (lv_at hl 3 rfl) ?_
        refine va_get (D := (dC, dI)) (ci := 6) (v := .ref uy) (C := RX7) (T := TX7) (N := 4) hx hb hts inX7 hown hK hP 4 rfl rfl 1 (by decide) (hts _ mw_170) (fun _ h9 => h9) rfl dX4_holdsCorner_22 ?_
        refine lv_iload hx hb dX4_holdsCorner_25 (lv_at hl 1 rfl) ?_
        refine z_iald hx hb hK hP 6 0 rfl rfl (e := k) rfl (by omega) (by omega) dX4_holdsCorner_27 ?_
        refine lv_istore (lv' := [(8, .int (V k)), (7, .int (U k)), (6, .int (nI k)), (0, .ref lw), (1, .ref u), (2, .null), (3, .int (nI a9)), (4, .ref r), (5, .int (nI c9))]) hx hb dX4_holdsCorner_28 hl (by decide) rfl (fun ls hl => ?_)
        refine lv_aload_nN hx hb dX4_holdsCorner_30 rfl (lv_at hl 5 rfl) ?_
        refine lv_ifnullN (tgt := 46) hx hb dX4_holdsCorner_31 (by decide) ?_
        refine lv_aload hx hb dX4_holdsCorner_46 (lv_at hl 7 rfl) ?_
        refine lv_ifnull hx hb dX4_holdsCorner_48 ?_
        refine lv_aload hx hb dX4_holdsCorner_51 (lv_at hl 7 rfl) ?_
        refine lv_iload hx hb dX4_holdsCorner_53 (lv_at hl 8 rfl) ?_
        refine lv_iload hx hb dX4_holdsCorner_55 (lv_at hl 1 rfl) ?_
        refine lv_iload hx hb dX4_holdsCorner_57 (lv_at hl 0 rfl) ?_
        have hPc := hP.sub (ws' := [(oc6 r (.ref rx) (.ref ry) (nI n) rg), (oa rx cI cap X), (oa ry cI cap Y)]) [7, 8, 9] rfl
        have hDc := hD.sub (ws' := [(oc6 r (.ref rx) (.ref ry) (nI n) rg), (oa rx cI cap X), (oa ry cI cap Y)]) [7, 8, 9] (by decide) rfl
        have hFc := va_free (wc := [(oc6 r (.ref rx) (.ref ry) (nI n) rg), (oa rx cI cap X), (oa ry cI cap Y)]) hD hS hA [7, 8, 9] rfl
        refine zcall (st1 := [.int (pI ((X c9).toInt = (U k).toInt ∧ (Y c9).toInt = (V k).toInt))]) (va_runV (As := [.int (nI c9), .int (U k), .int (V k)]) (rest := []) ⟨hx, hb, hml, hown, hts⟩ (k_Row_isCorner l dC dI cI cZ cF H.size r rx ry n cap X Y rg c9 (U k) (V k) (by omega) (by omega) (by omega)) (cwV 3 hts (zz_gV mw_713 mw_541 mw_542 mw_102 mc_yX7_isCorner) rfl rfl rfl (by decide +kernel) ⟨Nat.le_of_ble_eq_true rfl, Nat.le_of_ble_eq_true rfl⟩) (zPV2 (q0 := 0) (ci := 6) hPc hDc hK hXN rfl rfl) rfl rfl hl.1 rfl (lv_room (Nat.le_of_ble_eq_true rfl)) dX4_holdsCorner_59 ⟨Nat.le_of_ble_eq_true rfl, Nat.le_of_ble_eq_true rfl⟩) hS hFc hFc rfl (fun t H1 locs ht hB hk1 hS => ?_)
        obtain ⟨hP1, hD1⟩ := hB
        rw [ht] at hP1
        obtain ⟨hP, hD⟩ := va_join (wr := [(oc3 lw (.ref dr) (.ref tg) (.ref wy) (.ref br) (.ref bo) (.ref aa)), (oc6 tg (.ref tx) (.ref ty) (nI 3) 1), (oa tx cI 3 TX), (oa ty cI 3 TY), (oc6 u (.ref ux) (.ref uy) (nI m2) rh), (oa ux cI cap2 U), (oa uy cI cap2 V)]) (w1 := [(oc6 r (.ref rx) (.ref ry) (nI n) rg), (oa rx cI cap X), (oa ry cI cap Y)]) hP hD [7, 8, 9] [0, 1, 2, 3, 4, 5, 6] rfl rfl (by decide) (by decide) hk1 hFc hP1 hD1
        clear hk1 hPc hDc hFc hP1 hD1 ht
        generalize H1 = H at hP hS ⊢
        have hP : va_P (dC, dI) classes [(oc3 lw (.ref dr) (.ref tg) (.ref wy) (.ref br) (.ref bo) (.ref aa)), (oc6 tg (.ref tx) (.ref ty) (nI 3) 1), (oa tx cI 3 TX), (oa ty cI 3 TY), (oc6 u (.ref ux) (.ref uy) (nI m2) rh), (oa ux cI cap2 U), (oa uy cI cap2 V), (oc6 r (.ref rx) (.ref ry) (nI n) rg), (oa rx cI cap X), (oa ry cI cap Y)] H := hP
        have hD : va_D A [(oc3 lw (.ref dr) (.ref tg) (.ref wy) (.ref br) (.ref bo) (.ref aa)), (oc6 tg (.ref tx) (.ref ty) (nI 3) 1), (oa tx cI 3 TX), (oa ty cI 3 TY), (oc6 u (.ref ux) (.ref uy) (nI m2) rh), (oa ux cI cap2 U), (oa uy cI cap2 V), (oc6 r (.ref rx) (.ref ry) (nI n) rg), (oa rx cI cap X), (oa ry cI cap Y)] := hD
        refine lv_if_eq (tgt := 69) hx hb dX4_holdsCorner_62 (by decide) (fun c_2 => ?_) (fun c_2 => ?_)
        · have c_2 : ¬ ((X c9).toInt = (U k).toInt ∧ (Y c9).toInt = (V k).toInt) := zp_0 c_2
          refine lv_iconst (v := 0) hx hb dX4_holdsCorner_69 (by decide) ?_
          refine lv_istore (lv' := [(9, .int 0), (8, .int (V k)), (7, .int (U k)), (6, .int (nI k)), (0, .ref lw), (1, .ref u), (2, .null), (3, .int (nI a9)), (4, .ref r), (5, .int (nI c9))]) hx hb dX4_holdsCorner_70 hl (by decide) rfl (fun ls hl => ?_)
          refine lv_iload hx hb dX4_holdsCorner_72 (lv_at hl 0 rfl) ?_
          refine lv_if_ne (tgt := 93) hx hb dX4_holdsCorner_74 (by decide) (fun c_3 => ?_) (fun c_3 => ?_)
          · exact absurd (by decide) c_3
          · refine lv_aload_n hx hb dX4_holdsCorner_77 rfl (lv_at hl 4 rfl) ?_
            refine va_get (D := (dC, dI)) (ci := 3) (v := .ref tg) (C := RX4) (T := TX4) (N := 6) hx hb hts inX4 hown hK hP 0 rfl rfl 1 (by decide) (hts _ mw_221) (fun _ h9 => h9) rfl dX4_holdsCorner_78 ?_
            refine lv_iload hx hb dX4_holdsCorner_81 (lv_at hl 2 rfl) ?_
            refine lv_iload hx hb dX4_holdsCorner_83 (lv_at hl 1 rfl) ?_
            have hPc := hP.sub (ws' := [(oc6 tg (.ref tx) (.ref ty) (nI 3) 1), (oa tx cI 3 TX), (oa ty cI 3 TY)]) [1, 2, 3] rfl
            have hDc := hD.sub (ws' := [(oc6 tg (.ref tx) (.ref ty) (nI 3) 1), (oa tx cI 3 TX), (oa ty cI 3 TY)]) [1, 2, 3] (by decide) rfl
            have hFc := va_free (wc := [(oc6 tg (.ref tx) (.ref ty) (nI 3) 1), (oa tx cI 3 TX), (oa ty cI 3 TY)]) hD hS hA [1, 2, 3] rfl
            refine zcall (st1 := [.int (whr 3 TX TY (U k).toInt (V k).toInt)]) (va_runV (As := [.int (U k), .int (V k)]) (rest := []) ⟨hx, hb, hml, hown, hts⟩ (k_Row_where l dC dI cI cZ cF H.size tg tx ty 3 3 TX TY 1 (U k) (V k) (by omega) (by omega) (hpt) ((hq k (by omega)).1) ((hq k (by omega)).2)) (cwV 2 hts (zz_gV mw_687 mw_688 mw_689 mw_102 mc_yX7_where) rfl rfl rfl (by decide +kernel) ⟨Nat.le_of_ble_eq_true rfl, Nat.le_of_ble_eq_true rfl⟩) (zPV2 (q0 := 0) (ci := 6) hPc hDc hK hXN rfl rfl) rfl rfl hl.1 rfl (lv_room (Nat.le_of_ble_eq_true rfl)) dX4_holdsCorner_85 ⟨Nat.le_of_ble_eq_true rfl, Nat.le_of_ble_eq_true rfl⟩) hS hFc hFc rfl (fun t H1 locs ht hB hk1 hS => ?_)
            obtain ⟨hP1, hD1⟩ := hB
            rw [ht] at hP1
            obtain ⟨hP, hD⟩ := va_join (wr := [(oc3 lw (.ref dr) (.ref tg) (.ref wy) (.ref br) (.ref bo) (.ref aa)), (oc6 u (.ref ux) (.ref uy) (nI m2) rh), (oa ux cI cap2 U), (oa uy cI cap2 V), (oc6 r (.ref rx) (.ref ry) (nI n) rg), (oa rx cI cap X), (oa ry cI cap Y)]) (w1 := [(oc6 tg (.ref tx) (.ref ty) (nI 3) 1), (oa tx cI 3 TX), (oa ty cI 3 TY)]) hP hD [1, 2, 3] [0, 4, 5, 6, 7, 8, 9] rfl rfl (by decide) (by decide) hk1 hFc hP1 hD1
            clear hk1 hPc hDc hFc hP1 hD1 ht
            generalize H1 = H at hP hS ⊢
            have hP := hP.sub (ws' := [(oc3 lw (.ref dr) (.ref tg) (.ref wy) (.ref br) (.ref bo) (.ref aa)), (oc6 tg (.ref tx) (.ref ty) (nI 3) 1), (oa tx cI 3 TX), (oa ty cI 3 TY), (oc6 u (.ref ux) (.ref uy) (nI m2) rh), (oa ux cI cap2 U), (oa uy cI cap2 V), (oc6 r (.ref rx) (.ref ry) (nI n) rg), (oa rx cI cap X), (oa ry cI cap Y)]) [0, 7, 8, 9, 1, 2, 3, 4, 5, 6] rfl
            have hD := hD.sub (ws' := [(oc3 lw (.ref dr) (.ref tg) (.ref wy) (.ref br) (.ref bo) (.ref aa)), (oc6 tg (.ref tx) (.ref ty) (nI 3) 1), (oa tx cI 3 TX), (oa ty cI 3 TY), (oc6 u (.ref ux) (.ref uy) (nI m2) rh), (oa ux cI cap2 U), (oa uy cI cap2 V), (oc6 r (.ref rx) (.ref ry) (nI n) rg), (oa rx cI cap X), (oa ry cI cap Y)]) [0, 7, 8, 9, 1, 2, 3, 4, 5, 6] (by decide) rfl
            have hP : va_P (dC, dI) classes [(oc3 lw (.ref dr) (.ref tg) (.ref wy) (.ref br) (.ref bo) (.ref aa)), (oc6 tg (.ref tx) (.ref ty) (nI 3) 1), (oa tx cI 3 TX), (oa ty cI 3 TY), (oc6 u (.ref ux) (.ref uy) (nI m2) rh), (oa ux cI cap2 U), (oa uy cI cap2 V), (oc6 r (.ref rx) (.ref ry) (nI n) rg), (oa rx cI cap X), (oa ry cI cap Y)] H := hP
            have hD : va_D A [(oc3 lw (.ref dr) (.ref tg) (.ref wy) (.ref br) (.ref bo) (.ref aa)), (oc6 tg (.ref tx) (.ref ty) (nI 3) 1), (oa tx cI 3 TX), (oa ty cI 3 TY), (oc6 u (.ref ux) (.ref uy) (nI m2) rh), (oa ux cI cap2 U), (oa uy cI cap2 V), (oc6 r (.ref rx) (.ref ry) (nI n) rg), (oa rx cI cap X), (oa ry cI cap Y)] := hD
            refine lv_if_eq (tgt := 93) hx hb dX4_holdsCorner_88 (by decide) (fun c_4 => ?_) (fun c_4 => ?_)
            · have c_4 : (whr 3 TX TY (U k).toInt (V k).toInt).toInt = 0 := zc_eq rfl (by decide) c_4
              refine lv_iinc (v := nI (k + 1)) (lv' := [(6, .int (nI (k + 1))), (9, .int 0), (8, .int (V k)), (7, .int (U k)), (0, .ref lw), (1, .ref u), (2, .null), (3, .int (nI a9)), (4, .ref r), (5, .int (nI c9))]) hx hb dX4_holdsCorner_93 hl (k := 3) rfl (nI_add k 1) (by decide) rfl (fun ls hl => ?_)
              refine lv_goto (tgt := 3) hx hb dX4_holdsCorner_96 (by decide) ?_
              exact ih_3 (k + 1) H locs ls (by omega) (by omega) (by intro j hj; rcases Nat.lt_or_ge j k with h | h; exact hno j h; rw [show j = k by omega]; first | exact fun h => absurd (by assumption) h.1 | exact fun h => absurd (by assumption) h.2) hP hD hS (lv_sub hl [0, 4, 5, 6, 7, 8, 9] rfl)
            · have c_4 : ¬ (whr 3 TX TY (U k).toInt (V k).toInt).toInt = 0 := zc_ne rfl (by decide) c_4
              refine lv_iconst (v := 1) hx hb dX4_holdsCorner_91 (by decide) ?_
              have hP9 := hP.sub (ws' := [(oc3 lw (.ref dr) (.ref tg) (.ref wy) (.ref br) (.ref bo) (.ref aa)), (oc6 tg (.ref tx) (.ref ty) (nI 3) 1), (oa tx cI 3 TX), (oa ty cI 3 TY), (oc6 u (.ref ux) (.ref uy) (nI m2) rh), (oa ux cI cap2 U), (oa uy cI cap2 V), (oc6 r (.ref rx) (.ref ry) (nI n) rg), (oa rx cI cap X), (oa ry cI cap Y)]) [0, 1, 2, 3, 4, 5, 6, 7, 8, 9] rfl
              have hD9 := hD.sub (ws' := [(oc3 lw (.ref dr) (.ref tg) (.ref wy) (.ref br) (.ref bo) (.ref aa)), (oc6 tg (.ref tx) (.ref ty) (nI 3) 1), (oa tx cI 3 TX), (oa ty cI 3 TY), (oc6 u (.ref ux) (.ref uy) (nI m2) rh), (oa ux cI cap2 U), (oa uy cI cap2 V), (oc6 r (.ref rx) (.ref ry) (nI n) rg), (oa rx cI cap X), (oa ry cI cap Y)]) [0, 1, 2, 3, 4, 5, 6, 7, 8, 9] (by decide) rfl
              rw [hQ9]
              exact W.zret (ty := .boolean) (v := 1) hx hb hr (rfl) (fun t ht hW => ⟨⟨congrArg (fun z => Outcome.returned (some (Value.int z))) (show (1 : Int32) = pI (∃ j7, j7 < m2 ∧ ¬ ((X c9).toInt = (U j7).toInt ∧ (Y c9).toInt = (V j7).toInt) ∧ ¬ (whr 3 TX TY (U j7).toInt (V j7).toInt).toInt = 0) from (zp_t (⟨k, by omega, by assumption, by assumption⟩)).symm), by rw [ht]; exact hP9, hD9⟩, hS.F ht⟩) hS.2.2 dX4_holdsCorner_92
        · have c_2 : (X c9).toInt = (U k).toInt ∧ (Y c9).toInt = (V k).toInt := zp_1 c_2
          refine lv_iconst (v := 1) hx hb dX4_holdsCorner_65 (by decide) ?_
          refine lv_goto (tgt := 70) hx hb dX4_holdsCorner_66 (by decide) ?_
          refine lv_istore (lv' := [(9, .int 1), (8, .int (V k)), (7, .int (U k)), (6, .int (nI k)), (0, .ref lw), (1, .ref u), (2, .null), (3, .int (nI a9)), (4, .ref r), (5, .int (nI c9))]) hx hb dX4_holdsCorner_70 hl (by decide) rfl (fun ls hl => ?_)
          refine lv_iload hx hb dX4_holdsCorner_72 (lv_at hl 0 rfl) ?_
          refine lv_if_ne (tgt := 93) hx hb dX4_holdsCorner_74 (by decide) (fun c_5 => ?_) (fun c_5 => ?_)
          · refine lv_iinc (v := nI (k + 1)) (lv' := [(6, .int (nI (k + 1))), (9, .int 1), (8, .int (V k)), (7, .int (U k)), (0, .ref lw), (1, .ref u), (2, .null), (3, .int (nI a9)), (4, .ref r), (5, .int (nI c9))]) hx hb dX4_holdsCorner_93 hl (k := 3) rfl (nI_add k 1) (by decide) rfl (fun ls hl => ?_)
            refine lv_goto (tgt := 3) hx hb dX4_holdsCorner_96 (by decide) ?_
            exact ih_3 (k + 1) H locs ls (by omega) (by omega) (by intro j hj; rcases Nat.lt_or_ge j k with h | h; exact hno j h; rw [show j = k by omega]; first | exact fun h => absurd (by assumption) h.1 | exact fun h => absurd (by assumption) h.2) hP hD hS (lv_sub hl [0, 4, 5, 6, 7, 8, 9] rfl)
          · exact absurd c_5 (by decide)
  exact hl_3 _ 0 s.heap [] ls (Nat.lt_succ_self _) (by omega) (by intro j hj; omega) hP hD hS (lv_sub hl [0, 1, 2, 3, 4, 5, 6] rfl)
set_option maxHeartbeats 4000000 in
set_option maxRecDepth 100000 in
theorem k_Law_holdsCorner_nn (l : Launch) (dC : Nat → ClassId) (dI : Nat → Nat → Nat) (cI cZ cF : ClassId) (sz : Nat) (lw : Nat) (dr : Nat) (tg : Nat) (wy : Nat) (br : Nat) (bo : Nat) (aa : Nat) (tx : Nat) (ty : Nat) (TX : Nat → Int32) (TY : Nat → Int32) (u : Nat) (ux : Nat) (uy : Nat) (m2 : Nat) (cap2 : Nat) (U : Nat → Int32) (V : Nat → Int32) (rh : Int32) (a9 : Nat) (c9 : Nat) (hm : m2 ≤ cap2) (hcap2 : cap2 ≤ 1000) (hq : pls m2 U V) (hpt : pls 3 TX TY) : Met l yX4_holdsCorner (.code yX4_holdsCorner cX4_holdsCorner 10 (some .boolean) :: ws0) ({ frames := 1, cells := 0, slots := 0, locals := 26 } : Room) (va_Pc [.ref lw, .ref u, .null, .int (nI a9), .null, .int (nI c9)] (zPre (dC, dI) classes (zTy cI cZ cF) [(oc3 lw (.ref dr) (.ref tg) (.ref wy) (.ref br) (.ref bo) (.ref aa)), (oc6 tg (.ref tx) (.ref ty) (nI 3) 1), (oa tx cI 3 TX), (oa ty cI 3 TY), (oc6 u (.ref ux) (.ref uy) (nI m2) rh), (oa ux cI cap2 U), (oa uy cI cap2 V)] sz zXN)) (zQ (some (.int (pI (∃ j7, j7 < m2 ∧ ¬ (whr 3 TX TY (U j7).toInt (V j7).toInt).toInt = 0)))) (fun t => va_P (dC, dI) classes [(oc3 lw (.ref dr) (.ref tg) (.ref wy) (.ref br) (.ref bo) (.ref aa)), (oc6 tg (.ref tx) (.ref ty) (nI 3) 1), (oa tx cI 3 TX), (oa ty cI 3 TY), (oc6 u (.ref ux) (.ref uy) (nI m2) rh), (oa ux cI cap2 U), (oa uy cI cap2 V)] t.heap ∧ va_D (va_A [(oc3 lw (.ref dr) (.ref tg) (.ref wy) (.ref br) (.ref bo) (.ref aa)), (oc6 tg (.ref tx) (.ref ty) (nI 3) 1), (oa tx cI 3 TX), (oa ty cI 3 TY), (oc6 u (.ref ux) (.ref uy) (nI m2) rh), (oa ux cI cap2 U), (oa uy cI cap2 V)] sz) [(oc3 lw (.ref dr) (.ref tg) (.ref wy) (.ref br) (.ref bo) (.ref aa)), (oc6 tg (.ref tx) (.ref ty) (nI 3) 1), (oa tx cI 3 TX), (oa ty cI 3 TY), (oc6 u (.ref ux) (.ref uy) (nI m2) rh), (oa ux cI cap2 U), (oa uy cI cap2 V)]) (va_A [(oc3 lw (.ref dr) (.ref tg) (.ref wy) (.ref br) (.ref bo) (.ref aa)), (oc6 tg (.ref tx) (.ref ty) (nI 3) 1), (oa tx cI 3 TX), (oa ty cI 3 TY), (oc6 u (.ref ux) (.ref uy) (nI m2) rh), (oa ux cI cap2 U), (oa uy cI cap2 V)] sz)) 0 0 (va_A [(oc3 lw (.ref dr) (.ref tg) (.ref wy) (.ref br) (.ref bo) (.ref aa)), (oc6 tg (.ref tx) (.ref ty) (nI 3) 1), (oa tx cI 3 TX), (oa ty cI 3 TY), (oc6 u (.ref ux) (.ref uy) (nI m2) rh), (oa ux cI cap2 U), (oa uy cI cap2 V)] sz) := by
  refine Met.ofW (cc := cX4_holdsCorner) (maxL := 10) (ret := (some .boolean)) (by decide) rfl ?_
  intro p e s m args below meth c s₁ B hml hv
  obtain ⟨rfl, hsz, hP, hK, hD0, hXN⟩ := hv
  have hx := B.exec
  have hb := B.bytes
  have hr := B.returns
  have hts0 := atoms_spec (ws := .code yX4_holdsCorner cX4_holdsCorner 10 (some .boolean) :: ws0) B.pre
  have hts : ∀ w9 ∈ ws0, w9.before ([.ref lw, .ref u, .null, .int (nI a9), .null, .int (nI c9)] : List Value).toArray s = true := fun w9 h => hts0 w9 (List.mem_cons_of_mem _ h)
  have hown : s.vm.findClass "ScaleShop$Law" = some m.cls := findClass_of_methodNamed B.named
  have hlocks := B.notSynchronized
  subst hsz
  have hD := hD0.self (sz := s.heap.size)
  clear hD0
  generalize hAe : va_A [(oc3 lw (.ref dr) (.ref tg) (.ref wy) (.ref br) (.ref bo) (.ref aa)), (oc6 tg (.ref tx) (.ref ty) (nI 3) 1), (oa tx cI 3 TX), (oa ty cI 3 TY), (oc6 u (.ref ux) (.ref uy) (nI m2) rh), (oa ux cI cap2 U), (oa uy cI cap2 V)] s.heap.size = A at hD ⊢
  have hA : ∀ q : Nat, s.heap.size ≤ q → A q := fun q h => by rw [← hAe]; exact Or.inr h
  clear hAe
  have hS : va_S A s.heap s.heap [] := va_S.rf
  have hP : va_P (dC, dI) classes [(oc3 lw (.ref dr) (.ref tg) (.ref wy) (.ref br) (.ref bo) (.ref aa)), (oc6 tg (.ref tx) (.ref ty) (nI 3) 1), (oa tx cI 3 TX), (oa ty cI 3 TY), (oc6 u (.ref ux) (.ref uy) (nI m2) rh), (oa ux cI cap2 U), (oa uy cI cap2 V)] s.heap := hP
  obtain ⟨Q9, hQ9⟩ : ∃ Q9 : State → Prop, Q9 = MQ below (zQ (some (.int (pI (∃ j7, j7 < m2 ∧ ¬ (whr 3 TX TY (U j7).toInt (V j7).toInt).toInt = 0)))) (fun t => va_P (dC, dI) classes [(oc3 lw (.ref dr) (.ref tg) (.ref wy) (.ref br) (.ref bo) (.ref aa)), (oc6 tg (.ref tx) (.ref ty) (nI 3) 1), (oa tx cI 3 TX), (oa ty cI 3 TY), (oc6 u (.ref ux) (.ref uy) (nI m2) rh), (oa ux cI cap2 U), (oa uy cI cap2 V)] t.heap ∧ va_D A [(oc3 lw (.ref dr) (.ref tg) (.ref wy) (.ref br) (.ref bo) (.ref aa)), (oc6 tg (.ref tx) (.ref ty) (nI 3) 1), (oa tx cI 3 TX), (oa ty cI 3 TY), (oc6 u (.ref ux) (.ref uy) (nI m2) rh), (oa ux cI cap2 U), (oa uy cI cap2 V)]) A) ([.ref lw, .ref u, .null, .int (nI a9), .null, .int (nI c9)] : List Value).toArray s 0 0 A := ⟨_, rfl⟩
  rw [← hQ9]
  have hl := lv_entry ([.ref lw, .ref u, .null, .int (nI a9), .null, .int (nI c9)]) (n := 10) (Nat.le_of_ble_eq_true rfl)
  rw [lg_entry_eq]
  generalize (lg_sl ([.ref lw, .ref u, .null, .int (nI a9), .null, .int (nI c9)]) ++ List.replicate (10 - (lg_sl ([.ref lw, .ref u, .null, .int (nI a9), .null, .int (nI c9)])).length) Slot.unset).toArray = ls at hl ⊢
  have hl : lv_has ls 10 [(0, .ref lw), (1, .ref u), (2, .null), (3, .int (nI a9)), (4, .null), (5, .int (nI c9))] := hl
  refine lv_iconst (v := 0) hx hb dX4_holdsCorner_0 (by decide) ?_
  refine lv_istore (lv' := [(6, .int 0), (0, .ref lw), (1, .ref u), (2, .null), (3, .int (nI a9)), (4, .null), (5, .int (nI c9))]) hx hb dX4_holdsCorner_1 hl (by decide) rfl (fun ls hl => ?_)
  have hl_3 : ∀ (n9 : Nat) (k : Nat) (H : Heap) (locs : List Loc) (ls : Array Slot), m2 - k < n9 → (k ≤ m2) → (∀ j, j < k → ¬ (¬ (whr 3 TX TY (U j).toInt (V j).toInt).toInt = 0)) → va_P (dC, dI) classes [(oc3 lw (.ref dr) (.ref tg) (.ref wy) (.ref br) (.ref bo) (.ref aa)), (oc6 tg (.ref tx) (.ref ty) (nI 3) 1), (oa tx cI 3 TX), (oa ty cI 3 TY), (oc6 u (.ref ux) (.ref uy) (nI m2) rh), (oa ux cI cap2 U), (oa uy cI cap2 V)] H → va_D A [(oc3 lw (.ref dr) (.ref tg) (.ref wy) (.ref br) (.ref bo) (.ref aa)), (oc6 tg (.ref tx) (.ref ty) (nI 3) 1), (oa tx cI 3 TX), (oa ty cI 3 TY), (oc6 u (.ref ux) (.ref uy) (nI m2) rh), (oa ux cI cap2 U), (oa uy cI cap2 V)] → va_S A s.heap H locs → lv_has ls 10 [(6, .int (nI k)), (0, .ref lw), (1, .ref u), (2, .null), (3, .int (nI a9)), (4, .null), (5, .int (nI c9))] → W p l e ((headSpec (.code yX4_holdsCorner cX4_holdsCorner 10 (some .boolean) :: ws0) ({ frames := 1, cells := 0, slots := 0, locals := 26 } : Room)).room) s m ([.ref lw, .ref u, .null, .int (nI a9), .null, .int (nI c9)] : List Value).toArray below meth c H locs 0 0 Q9 (F0 m 3 ls []) := by
    intro n9
    induction n9 with
    | zero => intro k H locs ls hm; exact absurd hm (Nat.not_lt_zero _)
    | succ n9 ih_3 =>
      intro k H locs ls hm hk hno hP hD hS hl
      refine lv_iload hx hb dX4_holdsCorner_3 (lv_at hl 0 rfl) ?_
      refine lv_aload_n hx hb dX4_holdsCorner_5 rfl (lv_at hl 2 rfl) ?_
      refine va_get (D := (dC, dI)) (ci := 6) (v := .int (nI m2)) (C := RX7) (T := TX7) (N := 4) hx hb hts inX7 hown hK hP 4 rfl rfl 2 (by decide) (hts _ mw_176) (fun _ h9 => h9) rfl dX4_holdsCorner_6 ?_
      refine lv_icmp_ge (tgt := 99) hx hb dX4_holdsCorner_9 (by decide) (fun c_1 => ?_) (fun c_1 => ?_)
      · have c_1 : ((m2 : Nat) : Int) ≤ ((k : Nat) : Int) := zc_le (nI_toInt (by omega)) (nI_toInt (by omega)) c_1
        refine lv_iconst (v := 0) hx hb dX4_holdsCorner_99 (by decide) ?_
        have hP9 := hP.sub (ws' := [(oc3 lw (.ref dr) (.ref tg) (.ref wy) (.ref br) (.ref bo) (.ref aa)), (oc6 tg (.ref tx) (.ref ty) (nI 3) 1), (oa tx cI 3 TX), (oa ty cI 3 TY), (oc6 u (.ref ux) (.ref uy) (nI m2) rh), (oa ux cI cap2 U), (oa uy cI cap2 V)]) [0, 1, 2, 3, 4, 5, 6] rfl
        have hD9 := hD.sub (ws' := [(oc3 lw (.ref dr) (.ref tg) (.ref wy) (.ref br) (.ref bo) (.ref aa)), (oc6 tg (.ref tx) (.ref ty) (nI 3) 1), (oa tx cI 3 TX), (oa ty cI 3 TY), (oc6 u (.ref ux) (.ref uy) (nI m2) rh), (oa ux cI cap2 U), (oa uy cI cap2 V)]) [0, 1, 2, 3, 4, 5, 6] (by decide) rfl
        rw [hQ9]
        exact W.zret (ty := .boolean) (v := 0) hx hb hr (rfl) (fun t ht hW => ⟨⟨congrArg (fun z => Outcome.returned (some (Value.int z))) (show (0 : Int32) = pI (∃ j7, j7 < m2 ∧ ¬ (whr 3 TX TY (U j7).toInt (V j7).toInt).toInt = 0) from (zp_f (fun ⟨j, hj, h⟩ => hno j (by omega) h)).symm), by rw [ht]; exact hP9, hD9⟩, hS.F ht⟩) hS.2.2 dX4_holdsCorner_100
      · have c_1 : ((k : Nat) : Int) < ((m2 : Nat) : Int) := zc_nle (nI_toInt (by omega)) (nI_toInt (by omega)) c_1
        refine lv_aload_n hx hb dX4_holdsCorner_12 rfl (lv_at hl 2 rfl) ?_
        refine va_get (D := (dC, dI)) (ci := 6) (v := .ref ux) (C := RX7) (T := TX7) (N := 4) hx hb hts inX7 hown hK hP 4 rfl rfl 0 (by decide) (hts _ mw_163) (fun _ h9 => h9) rfl dX4_holdsCorner_13 ?_
        refine lv_iload hx hb dX4_holdsCorner_16 (lv_at hl 0 rfl) ?_
        refine z_iald hx hb hK hP 5 0 rfl rfl (e := k) rfl (by omega) (by omega) dX4_holdsCorner_18 ?_
        refine lv_istore (lv' := [(7, .int (U k)), (6, .int (nI k)), (0, .ref lw), (1, .ref u), (2, .null), (3, .int (nI a9)), (4, .null), (5, .int (nI c9))]) hx hb dX4_holdsCorner_19 hl (by decide) rfl (fun ls hl => ?_)
        refine lv_aload_n hx hb dX4_holdsCorner_21 rfl (lv_at hl 3 rfl) ?_
        refine va_get (D := (dC, dI)) (ci := 6) (v := .ref uy) (C := RX7) (T := TX7) (N := 4) hx hb hts inX7 hown hK hP 4 rfl rfl 1 (by decide) (hts _ mw_170) (fun _ h9 => h9) rfl dX4_holdsCorner_22 ?_
        refine lv_iload hx hb dX4_holdsCorner_25 (lv_at hl 1 rfl) ?_
        refine z_iald hx hb hK hP 6 0 rfl rfl (e := k) rfl (by omega) (by omega) dX4_holdsCorner_27 ?_
        refine lv_istore (lv' := [(8, .int (V k)), (7, .int (U k)), (6, .int (nI k)), (0, .ref lw), (1, .ref u), (2, .null), (3, .int (nI a9)), (4, .null), (5, .int (nI c9))]) hx hb dX4_holdsCorner_28 hl (by decide) rfl (fun ls hl => ?_)
        refine lv_aload_nN hx hb dX4_holdsCorner_30 rfl (lv_at hl 5 rfl) ?_
        refine lv_ifnullN (tgt := 46) hx hb dX4_holdsCorner_31 (by decide) ?_
        refine lv_aloadN hx hb dX4_holdsCorner_46 (lv_at hl 7 rfl) ?_
        refine lv_ifnullN (tgt := 69) hx hb dX4_holdsCorner_48 (by decide) ?_
        refine lv_iconst (v := 0) hx hb dX4_holdsCorner_69 (by decide) ?_
        refine lv_istore (lv' := [(9, .int 0), (8, .int (V k)), (7, .int (U k)), (6, .int (nI k)), (0, .ref lw), (1, .ref u), (2, .null), (3, .int (nI a9)), (4, .null), (5, .int (nI c9))]) hx hb dX4_holdsCorner_70 hl (by decide) rfl (fun ls hl => ?_)
        refine lv_iload hx hb dX4_holdsCorner_72 (lv_at hl 0 rfl) ?_
        refine lv_if_ne (tgt := 93) hx hb dX4_holdsCorner_74 (by decide) (fun c_2 => ?_) (fun c_2 => ?_)
        · exact absurd (by decide) c_2
        · refine lv_aload_n hx hb dX4_holdsCorner_77 rfl (lv_at hl 4 rfl) ?_
          refine va_get (D := (dC, dI)) (ci := 3) (v := .ref tg) (C := RX4) (T := TX4) (N := 6) hx hb hts inX4 hown hK hP 0 rfl rfl 1 (by decide) (hts _ mw_221) (fun _ h9 => h9) rfl dX4_holdsCorner_78 ?_
          refine lv_iload hx hb dX4_holdsCorner_81 (lv_at hl 2 rfl) ?_
          refine lv_iload hx hb dX4_holdsCorner_83 (lv_at hl 1 rfl) ?_
          have hPc := hP.sub (ws' := [(oc6 tg (.ref tx) (.ref ty) (nI 3) 1), (oa tx cI 3 TX), (oa ty cI 3 TY)]) [1, 2, 3] rfl
          have hDc := hD.sub (ws' := [(oc6 tg (.ref tx) (.ref ty) (nI 3) 1), (oa tx cI 3 TX), (oa ty cI 3 TY)]) [1, 2, 3] (by decide) rfl
          have hFc := va_free (wc := [(oc6 tg (.ref tx) (.ref ty) (nI 3) 1), (oa tx cI 3 TX), (oa ty cI 3 TY)]) hD hS hA [1, 2, 3] rfl
          refine zcall (st1 := [.int (whr 3 TX TY (U k).toInt (V k).toInt)]) (va_runV (As := [.int (U k), .int (V k)]) (rest := []) ⟨hx, hb, hml, hown, hts⟩ (k_Row_where l dC dI cI cZ cF H.size tg tx ty 3 3 TX TY 1 (U k) (V k) (by omega) (by omega) (hpt) ((hq k (by omega)).1) ((hq k (by omega)).2)) (cwV 2 hts (zz_gV mw_687 mw_688 mw_689 mw_102 mc_yX7_where) rfl rfl rfl (by decide +kernel) ⟨Nat.le_of_ble_eq_true rfl, Nat.le_of_ble_eq_true rfl⟩) (zPV2 (q0 := 0) (ci := 6) hPc hDc hK hXN rfl rfl) rfl rfl hl.1 rfl (lv_room (Nat.le_of_ble_eq_true rfl)) dX4_holdsCorner_85 ⟨Nat.le_of_ble_eq_true rfl, Nat.le_of_ble_eq_true rfl⟩) hS hFc hFc rfl (fun t H1 locs ht hB hk1 hS => ?_)
          obtain ⟨hP1, hD1⟩ := hB
          rw [ht] at hP1
          obtain ⟨hP, hD⟩ := va_join (wr := [(oc3 lw (.ref dr) (.ref tg) (.ref wy) (.ref br) (.ref bo) (.ref aa)), (oc6 u (.ref ux) (.ref uy) (nI m2) rh), (oa ux cI cap2 U), (oa uy cI cap2 V)]) (w1 := [(oc6 tg (.ref tx) (.ref ty) (nI 3) 1), (oa tx cI 3 TX), (oa ty cI 3 TY)]) hP hD [1, 2, 3] [0, 4, 5, 6] rfl rfl (by decide) (by decide) hk1 hFc hP1 hD1
          clear hk1 hPc hDc hFc hP1 hD1 ht
          generalize H1 = H at hP hS ⊢
          have hP := hP.sub (ws' := [(oc3 lw (.ref dr) (.ref tg) (.ref wy) (.ref br) (.ref bo) (.ref aa)), (oc6 tg (.ref tx) (.ref ty) (nI 3) 1), (oa tx cI 3 TX), (oa ty cI 3 TY), (oc6 u (.ref ux) (.ref uy) (nI m2) rh), (oa ux cI cap2 U), (oa uy cI cap2 V)]) [0, 4, 5, 6, 1, 2, 3] rfl
          have hD := hD.sub (ws' := [(oc3 lw (.ref dr) (.ref tg) (.ref wy) (.ref br) (.ref bo) (.ref aa)), (oc6 tg (.ref tx) (.ref ty) (nI 3) 1), (oa tx cI 3 TX), (oa ty cI 3 TY), (oc6 u (.ref ux) (.ref uy) (nI m2) rh), (oa ux cI cap2 U), (oa uy cI cap2 V)]) [0, 4, 5, 6, 1, 2, 3] (by decide) rfl
          have hP : va_P (dC, dI) classes [(oc3 lw (.ref dr) (.ref tg) (.ref wy) (.ref br) (.ref bo) (.ref aa)), (oc6 tg (.ref tx) (.ref ty) (nI 3) 1), (oa tx cI 3 TX), (oa ty cI 3 TY), (oc6 u (.ref ux) (.ref uy) (nI m2) rh), (oa ux cI cap2 U), (oa uy cI cap2 V)] H := hP
          have hD : va_D A [(oc3 lw (.ref dr) (.ref tg) (.ref wy) (.ref br) (.ref bo) (.ref aa)), (oc6 tg (.ref tx) (.ref ty) (nI 3) 1), (oa tx cI 3 TX), (oa ty cI 3 TY), (oc6 u (.ref ux) (.ref uy) (nI m2) rh), (oa ux cI cap2 U), (oa uy cI cap2 V)] := hD
          refine lv_if_eq (tgt := 93) hx hb dX4_holdsCorner_88 (by decide) (fun c_3 => ?_) (fun c_3 => ?_)
          · have c_3 : (whr 3 TX TY (U k).toInt (V k).toInt).toInt = 0 := zc_eq rfl (by decide) c_3
            refine lv_iinc (v := nI (k + 1)) (lv' := [(6, .int (nI (k + 1))), (9, .int 0), (8, .int (V k)), (7, .int (U k)), (0, .ref lw), (1, .ref u), (2, .null), (3, .int (nI a9)), (4, .null), (5, .int (nI c9))]) hx hb dX4_holdsCorner_93 hl (k := 3) rfl (nI_add k 1) (by decide) rfl (fun ls hl => ?_)
            refine lv_goto (tgt := 3) hx hb dX4_holdsCorner_96 (by decide) ?_
            exact ih_3 (k + 1) H locs ls (by omega) (by omega) (by intro j hj; rcases Nat.lt_or_ge j k with h | h; exact hno j h; rw [show j = k by omega]; first | exact fun h => absurd (by assumption) h) hP hD hS (lv_sub hl [0, 4, 5, 6, 7, 8, 9] rfl)
          · have c_3 : ¬ (whr 3 TX TY (U k).toInt (V k).toInt).toInt = 0 := zc_ne rfl (by decide) c_3
            refine lv_iconst (v := 1) hx hb dX4_holdsCorner_91 (by decide) ?_
            have hP9 := hP.sub (ws' := [(oc3 lw (.ref dr) (.ref tg) (.ref wy) (.ref br) (.ref bo) (.ref aa)), (oc6 tg (.ref tx) (.ref ty) (nI 3) 1), (oa tx cI 3 TX), (oa ty cI 3 TY), (oc6 u (.ref ux) (.ref uy) (nI m2) rh), (oa ux cI cap2 U), (oa uy cI cap2 V)]) [0, 1, 2, 3, 4, 5, 6] rfl
            have hD9 := hD.sub (ws' := [(oc3 lw (.ref dr) (.ref tg) (.ref wy) (.ref br) (.ref bo) (.ref aa)), (oc6 tg (.ref tx) (.ref ty) (nI 3) 1), (oa tx cI 3 TX), (oa ty cI 3 TY), (oc6 u (.ref ux) (.ref uy) (nI m2) rh), (oa ux cI cap2 U), (oa uy cI cap2 V)]) [0, 1, 2, 3, 4, 5, 6] (by decide) rfl
            rw [hQ9]
            exact W.zret (ty := .boolean) (v := 1) hx hb hr (rfl) (fun t ht hW => ⟨⟨congrArg (fun z => Outcome.returned (some (Value.int z))) (show (1 : Int32) = pI (∃ j7, j7 < m2 ∧ ¬ (whr 3 TX TY (U j7).toInt (V j7).toInt).toInt = 0) from (zp_t (⟨k, by omega, by assumption⟩)).symm), by rw [ht]; exact hP9, hD9⟩, hS.F ht⟩) hS.2.2 dX4_holdsCorner_92
  exact hl_3 _ 0 s.heap [] ls (Nat.lt_succ_self _) (by omega) (by intro j hj; omega) hP hD hS (lv_sub hl [0, 1, 2, 3, 4, 5, 6] rfl)
