section
set_option maxHeartbeats 4000000 in
set_option maxRecDepth 100000 in
theorem k_Law_leastArea (l : Launch) (dC : Nat → ClassId) (dI : Nat → Nat → Nat) (cI cZ cF : ClassId) (sz : Nat) (lw : Nat) (dr : Nat) (tg : Nat) (wy : Nat) (br : Nat) (bo : Nat) (aa : Nat) (n : Nat) (AR : Nat → Int32) (lim : Int32) (hn40 : n ≤ 40) : Met l yX4_leastArea (.code yX4_leastArea cX4_leastArea 5 (some .int) :: ws0) ({ frames := 0, cells := 0, slots := 0, locals := 0 } : Room) (va_Pc [.ref lw, .int (nI n), .int lim] (zPre (dC, dI) classes (zTy cI cZ cF) [(oc3 lw (.ref dr) (.ref tg) (.ref wy) (.ref br) (.ref bo) (.ref aa)), (oa aa cI 40 AR)] sz zXN)) (zQe (fun v9 t => ∃ (zb : Int32), v9 = (some (.int zb)) ∧ (bstS (fun k => (AR k).toInt.toNat) (fun k => ¬ (0 ≤ (AR k).toInt ∧ (AR k).toInt ≤ lim.toInt)) n zb) ∧ va_P (dC, dI) classes [(oc3 lw (.ref dr) (.ref tg) (.ref wy) (.ref br) (.ref bo) (.ref aa)), (oa aa cI 40 AR)] t.heap ∧ va_D (va_A [(oc3 lw (.ref dr) (.ref tg) (.ref wy) (.ref br) (.ref bo) (.ref aa)), (oa aa cI 40 AR)] sz) [(oc3 lw (.ref dr) (.ref tg) (.ref wy) (.ref br) (.ref bo) (.ref aa)), (oa aa cI 40 AR)]) (va_A [(oc3 lw (.ref dr) (.ref tg) (.ref wy) (.ref br) (.ref bo) (.ref aa)), (oa aa cI 40 AR)] sz)) 0 0 (va_A [(oc3 lw (.ref dr) (.ref tg) (.ref wy) (.ref br) (.ref bo) (.ref aa)), (oa aa cI 40 AR)] sz) := by
  refine Met.ofW (cc := cX4_leastArea) (maxL := 5) (ret := (some .int)) rfl rfl ?_
  intro p e s m args below meth c s₁ B hml hv
  obtain ⟨rfl, hsz, hP, hK, hD0, hXN⟩ := hv
  have hx := B.exec
  have hb := B.bytes
  have hr := B.returns
  have hts0 := atoms_spec (ws := .code yX4_leastArea cX4_leastArea 5 (some .int) :: ws0) B.pre
  have hts : ∀ w9 ∈ ws0, w9.before ([.ref lw, .int (nI n), .int lim] : List Value).toArray s = true := fun w9 h => hts0 w9 (List.mem_cons_of_mem _ h)
  have hown : s.vm.findClass "ScaleShop$Law" = some m.cls := findClass_of_methodNamed B.named
  have hlocks := B.notSynchronized
  subst hsz
  have hD := hD0.self (sz := s.heap.size)
  clear hD0
  generalize hAe : va_A [(oc3 lw (.ref dr) (.ref tg) (.ref wy) (.ref br) (.ref bo) (.ref aa)), (oa aa cI 40 AR)] s.heap.size = A at hD ⊢
  have hA : ∀ q : Nat, s.heap.size ≤ q → A q := fun q h => by rw [← hAe]; exact Or.inr h
  clear hAe
  have hS : va_S A s.heap s.heap [] := va_S.rf
  have hP : va_P (dC, dI) classes [(oc3 lw (.ref dr) (.ref tg) (.ref wy) (.ref br) (.ref bo) (.ref aa)), (oa aa cI 40 AR)] s.heap := hP
  obtain ⟨Q9, hQ9⟩ : ∃ Q9 : State → Prop, Q9 = MQ below (zQe (fun v9 t => ∃ (zb : Int32), v9 = (some (.int zb)) ∧ (bstS (fun k => (AR k).toInt.toNat) (fun k => ¬ (0 ≤ (AR k).toInt ∧ (AR k).toInt ≤ lim.toInt)) n zb) ∧ va_P (dC, dI) classes [(oc3 lw (.ref dr) (.ref tg) (.ref wy) (.ref br) (.ref bo) (.ref aa)), (oa aa cI 40 AR)] t.heap ∧ va_D A [(oc3 lw (.ref dr) (.ref tg) (.ref wy) (.ref br) (.ref bo) (.ref aa)), (oa aa cI 40 AR)]) A) ([.ref lw, .int (nI n), .int lim] : List Value).toArray s 0 0 A := ⟨_, rfl⟩
  rw [← hQ9]
  have hl := lv_entry ([.ref lw, .int (nI n), .int lim]) (n := 5) (Nat.le_of_ble_eq_true rfl)
  rw [lg_entry_eq]
  generalize (lg_sl ([.ref lw, .int (nI n), .int lim]) ++ List.replicate (5 - (lg_sl ([.ref lw, .int (nI n), .int lim])).length) Slot.unset).toArray = ls at hl ⊢
  have hl : lv_has ls 5 [(0, .ref lw), (1, .int (nI n)), (2, .int lim)] := hl
  refine lv_iconst (v := (-1)) hx hb dX4_leastArea_0 rfl ?_
  refine lv_istore_n (lv' := [(3, .int (-1)), (0, .ref lw), (1, .int (nI n)), (2, .int lim)]) hx hb dX4_leastArea_1 rfl hl (Nat.le_of_ble_eq_true rfl) rfl (fun ls hl => ?_)
  refine lv_iconst (v := 0) hx hb dX4_leastArea_2 rfl ?_
  refine lv_istore (lv' := [(4, .int 0), (3, .int (-1)), (0, .ref lw), (1, .int (nI n)), (2, .int lim)]) hx hb dX4_leastArea_3 hl (Nat.le_of_ble_eq_true rfl) rfl (fun ls hl => ?_)
  have hl_5 : ∀ (n9 : Nat) (k : Nat) (z8 : Int32) (H : Heap) (locs : List Loc) (ls : Array Slot), n - k < n9 → (k ≤ n) → (bstS (fun k => (AR k).toInt.toNat) (fun k => ¬ (0 ≤ (AR k).toInt ∧ (AR k).toInt ≤ lim.toInt)) k z8) → va_P (dC, dI) classes [(oc3 lw (.ref dr) (.ref tg) (.ref wy) (.ref br) (.ref bo) (.ref aa)), (oa aa cI 40 AR)] H → va_D A [(oc3 lw (.ref dr) (.ref tg) (.ref wy) (.ref br) (.ref bo) (.ref aa)), (oa aa cI 40 AR)] → va_S A s.heap H locs → lv_has ls 5 [(4, .int (nI k)), (3, .int z8), (0, .ref lw), (1, .int (nI n)), (2, .int lim)] → W p l e ((headSpec (.code yX4_leastArea cX4_leastArea 5 (some .int) :: ws0) ({ frames := 0, cells := 0, slots := 0, locals := 0 } : Room)).room) s m ([.ref lw, .int (nI n), .int lim] : List Value).toArray below meth c H locs 0 0 Q9 (F0 m 5 ls []) := by
    intro n9
    induction n9 with
    | zero => intro k z8 H locs ls hm; exact absurd hm (Nat.not_lt_zero _)
    | succ n9 ih_5 =>
      intro k z8 H locs ls hm hk hat hP hD hS hl
      refine lv_iload hx hb dX4_leastArea_5 (lv_at hl 0 rfl) ?_
      refine lv_iload_n hx hb dX4_leastArea_7 rfl (lv_at hl 3 rfl) ?_
      have b9_2 : zlt (k) := show k < 2147483648 by omega
      have b9_3 : zlt (n) := show n < 2147483648 by omega
      refine lv_icmp_ge (tgt := 62) hx hb dX4_leastArea_8 rfl (fun c_1 => ?_) (fun c_1 => ?_)
      · have c_1 : ((n : Nat) : Int) ≤ ((k : Nat) : Int) := zc_le (nI_toInt b9_3) (nI_toInt b9_2) c_1
        refine lv_iload_n hx hb dX4_leastArea_62 rfl (lv_at hl 1 rfl) ?_
        have hkn : k = n := (by omega)
        rw [hkn] at hat
        obtain ⟨hP9, hD9⟩ := zu_sub (wc := [_, _]) hP hD [true, true] rfl rfl
        rw [hQ9]
        exact W.iret (v := z8) hx hb hr (fun t ht hW => ⟨⟨_, rfl, z8, rfl, (hat), by rw [ht]; exact hP9, hD9⟩, hS.F ht⟩) hS.2.2 dX4_leastArea_63
      · have c_1 : ((k : Nat) : Int) < ((n : Nat) : Int) := zc_nle (nI_toInt b9_3) (nI_toInt b9_2) c_1
        refine lv_aload_n hx hb dX4_leastArea_11 rfl (lv_at hl 2 rfl) ?_
        refine va_get (D := (dC, dI)) (ci := 3) (v := .ref aa) (C := RX4) (T := TX4) (N := 6) hx hb hts inX4 hown hK hP 0 rfl rfl 5 (Nat.le_of_ble_eq_true rfl) (hts _ mw_225) (fun _ h9 => h9) rfl dX4_leastArea_12 ?_
        refine lv_iload hx hb dX4_leastArea_15 (lv_at hl 0 rfl) ?_
        have b9_4 : k < 40 := by omega
        refine z_iald hx hb hK hP 1 0 rfl rfl (e := k) rfl b9_4 (Nat.le_of_ble_eq_true rfl) dX4_leastArea_17 ?_
        refine lv_if_lt (tgt := 56) hx hb dX4_leastArea_18 rfl (fun c_5 => ?_) (fun c_5 => ?_)
        · have c_5 : (AR k).toInt < 0 := zc_lt rfl rfl c_5
          refine lv_iinc (v := nI (k + 1)) (lv' := [(4, .int (nI (k + 1))), (3, .int z8), (0, .ref lw), (1, .int (nI n)), (2, .int lim)]) hx hb dX4_leastArea_56 hl (k := 0) rfl (nI_add k 1) (Nat.le_of_ble_eq_true rfl) rfl (fun ls hl => ?_)
          refine lv_goto (tgt := 5) hx hb dX4_leastArea_59 rfl ?_
          exact ih_5 (k + 1) z8 H locs ls (by first | with_reducible assumption | omega) (by first | with_reducible assumption | omega) (by first | exact bst_f hat (by first | with_reducible assumption | omega) | exact bst_n hat (by first | with_reducible assumption | omega) (by first | with_reducible assumption | omega) (by first | with_reducible assumption | omega) | exact bst_l hz9 hbk hbF hbm (by first | with_reducible assumption | omega) (by show (AR k).toInt.toNat < (AR b9).toInt.toNat; omega) | exact bst_g hz9 hbk hbF hbm (by show (AR b9).toInt.toNat ≤ (AR k).toInt.toNat; omega)) hP hD hS (lv_sub hl [0, 1, 2, 3, 4] rfl)
        · have c_5 : 0 ≤ (AR k).toInt := zc_nlt rfl rfl c_5
          refine lv_aload_n hx hb dX4_leastArea_21 rfl (lv_at hl 2 rfl) ?_
          refine va_get (D := (dC, dI)) (ci := 3) (v := .ref aa) (C := RX4) (T := TX4) (N := 6) hx hb hts inX4 hown hK hP 0 rfl rfl 5 (Nat.le_of_ble_eq_true rfl) (hts _ mw_225) (fun _ h9 => h9) rfl dX4_leastArea_22 ?_
          refine lv_iload hx hb dX4_leastArea_25 (lv_at hl 0 rfl) ?_
          refine z_iald hx hb hK hP 1 0 rfl rfl (e := k) rfl b9_4 (Nat.le_of_ble_eq_true rfl) dX4_leastArea_27 ?_
          refine lv_iload_n hx hb dX4_leastArea_28 rfl (lv_at hl 4 rfl) ?_
          refine lv_icmp_gt (tgt := 56) hx hb dX4_leastArea_29 rfl (fun c_6 => ?_) (fun c_6 => ?_)
          · have c_6 : lim.toInt < (AR k).toInt := zc_lt rfl rfl c_6
            refine lv_iinc (v := nI (k + 1)) (lv' := [(4, .int (nI (k + 1))), (3, .int z8), (0, .ref lw), (1, .int (nI n)), (2, .int lim)]) hx hb dX4_leastArea_56 hl (k := 0) rfl (nI_add k 1) (Nat.le_of_ble_eq_true rfl) rfl (fun ls hl => ?_)
            refine lv_goto (tgt := 5) hx hb dX4_leastArea_59 rfl ?_
            exact ih_5 (k + 1) z8 H locs ls (by first | with_reducible assumption | omega) (by first | with_reducible assumption | omega) (by first | exact bst_f hat (by first | with_reducible assumption | omega) | exact bst_n hat (by first | with_reducible assumption | omega) (by first | with_reducible assumption | omega) (by first | with_reducible assumption | omega) | exact bst_l hz9 hbk hbF hbm (by first | with_reducible assumption | omega) (by show (AR k).toInt.toNat < (AR b9).toInt.toNat; omega) | exact bst_g hz9 hbk hbF hbm (by show (AR b9).toInt.toNat ≤ (AR k).toInt.toNat; omega)) hP hD hS (lv_sub hl [0, 1, 2, 3, 4] rfl)
          · have c_6 : (AR k).toInt ≤ lim.toInt := zc_nlt rfl rfl c_6
            refine lv_iload_n hx hb dX4_leastArea_32 rfl (lv_at hl 1 rfl) ?_
            refine lv_iconst (v := (-1)) hx hb dX4_leastArea_33 rfl ?_
            refine lv_icmp_eq (tgt := 53) hx hb dX4_leastArea_34 rfl (fun c_7 => ?_) (fun c_7 => ?_)
            · have c_7 : z8.toInt = (-1) := zc_eq rfl rfl c_7
              refine lv_iload hx hb dX4_leastArea_53 (lv_at hl 0 rfl) ?_
              refine lv_istore_n (lv' := [(3, .int (nI k)), (4, .int (nI k)), (0, .ref lw), (1, .int (nI n)), (2, .int lim)]) hx hb dX4_leastArea_55 rfl hl (Nat.le_of_ble_eq_true rfl) rfl (fun ls hl => ?_)
              refine lv_iinc (v := nI (k + 1)) (lv' := [(4, .int (nI (k + 1))), (3, .int (nI k)), (0, .ref lw), (1, .int (nI n)), (2, .int lim)]) hx hb dX4_leastArea_56 hl (k := 1) rfl (nI_add k 1) (Nat.le_of_ble_eq_true rfl) rfl (fun ls hl => ?_)
              refine lv_goto (tgt := 5) hx hb dX4_leastArea_59 rfl ?_
              exact ih_5 (k + 1) (nI k) H locs ls (by first | with_reducible assumption | omega) (by first | with_reducible assumption | omega) (by first | exact bst_f hat (by first | with_reducible assumption | omega) | exact bst_n hat (by first | with_reducible assumption | omega) (by first | with_reducible assumption | omega) (by first | with_reducible assumption | omega) | exact bst_l hz9 hbk hbF hbm (by first | with_reducible assumption | omega) (by show (AR k).toInt.toNat < (AR b9).toInt.toNat; omega) | exact bst_g hz9 hbk hbF hbm (by show (AR b9).toInt.toNat ≤ (AR k).toInt.toNat; omega)) hP hD hS (lv_sub hl [0, 1, 2, 3, 4] rfl)
            · have c_7 : ¬ z8.toInt = (-1) := zc_ne rfl rfl c_7
              obtain ⟨b9, hz9, hbk, hbF, hbm⟩ := bst_get hat (by omega)
              have hbF9 : 0 ≤ (AR b9).toInt ∧ (AR b9).toInt ≤ lim.toInt := Classical.not_not.mp hbF
              refine lv_aload_n hx hb dX4_leastArea_37 rfl (lv_at hl 2 rfl) ?_
              refine va_get (D := (dC, dI)) (ci := 3) (v := .ref aa) (C := RX4) (T := TX4) (N := 6) hx hb hts inX4 hown hK hP 0 rfl rfl 5 (Nat.le_of_ble_eq_true rfl) (hts _ mw_225) (fun _ h9 => h9) rfl dX4_leastArea_38 ?_
              refine lv_iload hx hb dX4_leastArea_41 (lv_at hl 0 rfl) ?_
              refine z_iald hx hb hK hP 1 0 rfl rfl (e := k) rfl b9_4 (Nat.le_of_ble_eq_true rfl) dX4_leastArea_43 ?_
              refine lv_aload_n hx hb dX4_leastArea_44 rfl (lv_at hl 2 rfl) ?_
              refine va_get (D := (dC, dI)) (ci := 3) (v := .ref aa) (C := RX4) (T := TX4) (N := 6) hx hb hts inX4 hown hK hP 0 rfl rfl 5 (Nat.le_of_ble_eq_true rfl) (hts _ mw_225) (fun _ h9 => h9) rfl dX4_leastArea_45 ?_
              refine lv_iload_n hx hb dX4_leastArea_48 rfl (lv_at hl 1 rfl) ?_
              refine zz_i (v := nI b9) (hz9) ?_
              have b9_8 : b9 < 40 := by omega
              refine z_iald hx hb hK hP 1 0 rfl rfl (e := b9) rfl b9_8 (Nat.le_of_ble_eq_true rfl) dX4_leastArea_49 ?_
              refine lv_icmp_ge (tgt := 56) hx hb dX4_leastArea_50 rfl (fun c_9 => ?_) (fun c_9 => ?_)
              · have c_9 : (AR b9).toInt ≤ (AR k).toInt := zc_le rfl rfl c_9
                refine lv_iinc (v := nI (k + 1)) (lv' := [(4, .int (nI (k + 1))), (3, .int z8), (0, .ref lw), (1, .int (nI n)), (2, .int lim)]) hx hb dX4_leastArea_56 hl (k := 0) rfl (nI_add k 1) (Nat.le_of_ble_eq_true rfl) rfl (fun ls hl => ?_)
                refine lv_goto (tgt := 5) hx hb dX4_leastArea_59 rfl ?_
                exact ih_5 (k + 1) z8 H locs ls (by first | with_reducible assumption | omega) (by first | with_reducible assumption | omega) (by first | exact bst_f hat (by first | with_reducible assumption | omega) | exact bst_n hat (by first | with_reducible assumption | omega) (by first | with_reducible assumption | omega) (by first | with_reducible assumption | omega) | exact bst_l hz9 hbk hbF hbm (by first | with_reducible assumption | omega) (by show (AR k).toInt.toNat < (AR b9).toInt.toNat; omega) | exact bst_g hz9 hbk hbF hbm (by show (AR b9).toInt.toNat ≤ (AR k).toInt.toNat; omega)) hP hD hS (lv_sub hl [0, 1, 2, 3, 4] rfl)
              · have c_9 : (AR k).toInt < (AR b9).toInt := zc_nle rfl rfl c_9
                refine lv_iload hx hb dX4_leastArea_53 (lv_at hl 0 rfl) ?_
                refine lv_istore_n (lv' := [(3, .int (nI k)), (4, .int (nI k)), (0, .ref lw), (1, .int (nI n)), (2, .int lim)]) hx hb dX4_leastArea_55 rfl hl (Nat.le_of_ble_eq_true rfl) rfl (fun ls hl => ?_)
                refine lv_iinc (v := nI (k + 1)) (lv' := [(4, .int (nI (k + 1))), (3, .int (nI k)), (0, .ref lw), (1, .int (nI n)), (2, .int lim)]) hx hb dX4_leastArea_56 hl (k := 1) rfl (nI_add k 1) (Nat.le_of_ble_eq_true rfl) rfl (fun ls hl => ?_)
                refine lv_goto (tgt := 5) hx hb dX4_leastArea_59 rfl ?_
                exact ih_5 (k + 1) (nI k) H locs ls (by first | with_reducible assumption | omega) (by first | with_reducible assumption | omega) (by first | exact bst_f hat (by first | with_reducible assumption | omega) | exact bst_n hat (by first | with_reducible assumption | omega) (by first | with_reducible assumption | omega) (by first | with_reducible assumption | omega) | exact bst_l hz9 hbk hbF hbm (by first | with_reducible assumption | omega) (by show (AR k).toInt.toNat < (AR b9).toInt.toNat; omega) | exact bst_g hz9 hbk hbF hbm (by show (AR b9).toInt.toNat ≤ (AR k).toInt.toNat; omega)) hP hD hS (lv_sub hl [0, 1, 2, 3, 4] rfl)
  exact hl_5 _ 0 (-1) s.heap [] ls (Nat.lt_succ_self _) (by first | with_reducible assumption | omega) (bst_0 _ _) hP hD hS (lv_sub hl [0, 1, 2, 3, 4] rfl)
set_option maxHeartbeats 4000000 in
set_option maxRecDepth 100000 in
theorem k_Law_isIn (l : Launch) (dC : Nat → ClassId) (dI : Nat → Nat → Nat) (cI cZ cF : ClassId) (sz : Nat) (r : Nat) (rx : Nat) (ry : Nat) (n : Nat) (cap : Nat) (X : Nat → Int32) (Y : Nat → Int32) (rg : Int32) (u : Nat) (ux : Nat) (uy : Nat) (m2 : Nat) (cap2 : Nat) (U : Nat → Int32) (V : Nat → Int32) (rh : Int32) (hn : n ≤ cap) (hcap : cap ≤ 1000) (hp : pls n X Y) (hm : m2 ≤ cap2) (hcap2 : cap2 ≤ 1000) (hq : pls m2 U V) (h1m : 1 ≤ m2) : zM l yX4_isIn cX4_isIn 2 (some .boolean) ({ frames := 1, cells := 0, slots := 0, locals := 26 } : Room) [.ref r, .ref u] (dC, dI) (zTy cI cZ cF) [(oc6 r (.ref rx) (.ref ry) (nI n) rg), (oa rx cI cap X), (oa ry cI cap Y), (oc6 u (.ref ux) (.ref uy) (nI m2) rh), (oa ux cI cap2 U), (oa uy cI cap2 V)] sz (some (.int (pI (inF 5 n X Y (U 0).toInt (V 0).toInt)))) (fun A t => zPD (dC, dI) classes A [(oc6 r (.ref rx) (.ref ry) (nI n) rg), (oa rx cI cap X), (oa ry cI cap Y), (oc6 u (.ref ux) (.ref uy) (nI m2) rh), (oa ux cI cap2 U), (oa uy cI cap2 V)] t.heap) 0 0 := by
  refine zIn (own := "ScaleShop$Law") (loc := [(0, .ref r), (1, .ref u)]) rfl rfl rfl rfl (fun p e s m below meth c hx hb hr hts hown hlocks hml hnm9 A hA hS hP hD hK hXN Q9 hQ9 ls hl => ?_)
  refine lv_aload_n hx hb dX4_isIn_0 rfl (lv_at hl 0 rfl) ?_
  refine lv_aload_n hx hb dX4_isIn_1 rfl (lv_at hl 1 rfl) ?_
  refine va_get (D := (dC, dI)) (ci := 6) (v := .ref ux) (C := RX7) (T := TX7) (N := 4) hx hb hts inX7 hown hK hP 3 rfl rfl 0 (Nat.le_of_ble_eq_true rfl) (hts _ mw_163) (fun _ h9 => h9) rfl dX4_isIn_2 ?_
  refine lv_iconst (v := 0) hx hb dX4_isIn_5 rfl ?_
  have b9_1 : 0 < cap2 := by omega
  have b9_2 : zlt (cap2) := show cap2 < 2147483648 by omega
  refine z_iald hx hb hK hP 4 0 rfl rfl (e := 0) rfl b9_1 b9_2 dX4_isIn_6 ?_
  refine lv_aload_n hx hb dX4_isIn_7 rfl (lv_at hl 1 rfl) ?_
  refine va_get (D := (dC, dI)) (ci := 6) (v := .ref uy) (C := RX7) (T := TX7) (N := 4) hx hb hts inX7 hown hK hP 3 rfl rfl 1 (Nat.le_of_ble_eq_true rfl) (hts _ mw_170) (fun _ h9 => h9) rfl dX4_isIn_8 ?_
  refine lv_iconst (v := 0) hx hb dX4_isIn_11 rfl ?_
  refine z_iald hx hb hK hP 5 0 rfl rfl (e := 0) rfl b9_1 b9_2 dX4_isIn_12 ?_
  obtain ⟨hPc, hDc, hFc, hI1⟩ := zi_sub (wc := [_, _, _]) hP hD hS hA [0, 1, 2] rfl rfl
  refine zcall (st1 := [.int (whr n X Y (U 0).toInt (V 0).toInt)]) (va_runV (As := [.int (U 0), .int (V 0)]) (rest := []) ⟨hx, hb, hml, hown, hts⟩ (k_Row_where l dC dI cI cZ cF s.heap.size r rx ry n cap X Y rg (U 0) (V 0) (by first | with_reducible assumption | omega) (by first | with_reducible assumption | omega) (by first | with_reducible assumption | assumption) ((hq 0 (by first | with_reducible assumption | omega)).1) ((hq 0 (by first | with_reducible assumption | omega)).2)) (csV_38 hts rfl rfl ⟨Nat.le_of_ble_eq_true rfl, Nat.le_of_ble_eq_true rfl⟩) (zPV2 (q0 := 0) (ci := 6) hPc hDc hK hXN rfl rfl) rfl rfl hl.1 rfl (lv_room (Nat.le_of_ble_eq_true rfl)) dX4_isIn_13 ⟨Nat.le_of_ble_eq_true rfl, Nat.le_of_ble_eq_true rfl⟩) hS hFc hFc rfl (fun t H locs ht hB hk1 hS => ?_)
  obtain ⟨hP1, hD1⟩ := hB
  rw [ht] at hP1
  replace hP := z0 hP hD hk1 hP1 hI1
  clear hk1 hPc hDc hFc hP1 hD1 ht hI1
  refine lv_iconst (v := 1) hx hb dX4_isIn_16 rfl ?_
  refine lv_icmp_ne (tgt := 24) hx hb dX4_isIn_17 rfl (fun c_3 => ?_) (fun c_3 => ?_)
  · have c_3 : ¬ (whr n X Y (U 0).toInt (V 0).toInt).toInt = 1 := zc_ne rfl rfl c_3
    refine lv_iconst (v := 0) hx hb dX4_isIn_24 rfl ?_
    obtain ⟨hP9, hD9⟩ := zu_sub (wc := [_, _, _, _, _, _]) hP hD [true, true, true, true, true, true] rfl rfl
    rw [hQ9]
    exact W.zret (ty := .boolean) (v := 0) hx hb hr (rfl) (fun t ht hW => ⟨⟨congrArg (fun z => Outcome.returned (some (Value.int z))) (show (0 : Int32) = pI (inF 5 n X Y (U 0).toInt (V 0).toInt) from (zp_f (by rw [← whr_in]; omega)).symm), by rw [ht]; exact hP9, hD9⟩, hS.F ht⟩) hS.2.2 dX4_isIn_25
  · have c_3 : (whr n X Y (U 0).toInt (V 0).toInt).toInt = 1 := zc_eq rfl rfl c_3
    refine lv_iconst (v := 1) hx hb dX4_isIn_20 rfl ?_
    refine lv_goto (tgt := 25) hx hb dX4_isIn_21 rfl ?_
    obtain ⟨hP9, hD9⟩ := zu_sub (wc := [_, _, _, _, _, _]) hP hD [true, true, true, true, true, true] rfl rfl
    rw [hQ9]
    exact W.zret (ty := .boolean) (v := 1) hx hb hr (rfl) (fun t ht hW => ⟨⟨congrArg (fun z => Outcome.returned (some (Value.int z))) (show (1 : Int32) = pI (inF 5 n X Y (U 0).toInt (V 0).toInt) from (zp_t (by rw [← whr_in]; omega)).symm), by rw [ht]; exact hP9, hD9⟩, hS.F ht⟩) hS.2.2 dX4_isIn_25
set_option maxHeartbeats 4000000 in
set_option maxRecDepth 100000 in
theorem k_Law_holdsAsBefore (l : Launch) (dC : Nat → ClassId) (dI : Nat → Nat → Nat) (cI cZ cF : ClassId) (sz : Nat) (lw : Nat) (dr : Nat) (tg : Nat) (wy : Nat) (br : Nat) (bo : Nat) (aa : Nat) (dx : Nat) (dy : Nat) (nd : Nat) (cd : Nat) (P : Nat → Int32) (Q : Nat → Int32) (rd : Int32) (r : Nat) (rx : Nat) (ry : Nat) (n : Nat) (cap : Nat) (X : Nat → Int32) (Y : Nat → Int32) (rg : Int32) (u : Nat) (ux : Nat) (uy : Nat) (m2 : Nat) (cap2 : Nat) (U : Nat → Int32) (V : Nat → Int32) (rh : Int32) (hnd : nd ≤ cd) (hcd : cd ≤ 1000) (hpd : pls nd P Q) (hn : n ≤ cap) (hcap : cap ≤ 1000) (hp : pls n X Y) (hm : m2 ≤ cap2) (hcap2 : cap2 ≤ 1000) (hq : pls m2 U V) : zM l yX4_holdsAsBefore cX4_holdsAsBefore 5 (some .boolean) ({ frames := 1, cells := 0, slots := 0, locals := 26 } : Room) [.ref lw, .ref r, .ref u] (dC, dI) (zTy cI cZ cF) [(oc3 lw (.ref dr) (.ref tg) (.ref wy) (.ref br) (.ref bo) (.ref aa)), (oc6 dr (.ref dx) (.ref dy) (nI nd) rd), (oa dx cI cd P), (oa dy cI cd Q), (oc6 r (.ref rx) (.ref ry) (nI n) rg), (oa rx cI cap X), (oa ry cI cap Y), (oc6 u (.ref ux) (.ref uy) (nI m2) rh), (oa ux cI cap2 U), (oa uy cI cap2 V)] sz (some (.int (pI (∀ k, k < m2 → (inF 5 n X Y (U k).toInt (V k).toInt ↔ inF 5 nd P Q (U k).toInt (V k).toInt))))) (fun A t => zPD (dC, dI) classes A [(oc3 lw (.ref dr) (.ref tg) (.ref wy) (.ref br) (.ref bo) (.ref aa)), (oc6 dr (.ref dx) (.ref dy) (nI nd) rd), (oa dx cI cd P), (oa dy cI cd Q), (oc6 r (.ref rx) (.ref ry) (nI n) rg), (oa rx cI cap X), (oa ry cI cap Y), (oc6 u (.ref ux) (.ref uy) (nI m2) rh), (oa ux cI cap2 U), (oa uy cI cap2 V)] t.heap) 0 0 := by
  refine zIn (own := "ScaleShop$Law") (loc := [(0, .ref lw), (1, .ref r), (2, .ref u)]) rfl rfl rfl rfl (fun p e s m below meth c hx hb hr hts hown hlocks hml hnm9 A hA hS hP hD hK hXN Q9 hQ9 ls hl => ?_)
  refine lv_iconst (v := 0) hx hb dX4_holdsAsBefore_0 rfl ?_
  refine lv_istore_n (lv' := [(3, .int 0), (0, .ref lw), (1, .ref r), (2, .ref u)]) hx hb dX4_holdsAsBefore_1 rfl hl (Nat.le_of_ble_eq_true rfl) rfl (fun ls hl => ?_)
  have hl_2 : ∀ (n9 : Nat) (k : Nat) (H : Heap) (locs : List Loc) (ls : Array Slot), m2 - k < n9 → (k ≤ m2) → (∀ j, j < k → (inF 5 n X Y (U j).toInt (V j).toInt ↔ inF 5 nd P Q (U j).toInt (V j).toInt)) → va_P (dC, dI) classes [(oc3 lw (.ref dr) (.ref tg) (.ref wy) (.ref br) (.ref bo) (.ref aa)), (oc6 dr (.ref dx) (.ref dy) (nI nd) rd), (oa dx cI cd P), (oa dy cI cd Q), (oc6 r (.ref rx) (.ref ry) (nI n) rg), (oa rx cI cap X), (oa ry cI cap Y), (oc6 u (.ref ux) (.ref uy) (nI m2) rh), (oa ux cI cap2 U), (oa uy cI cap2 V)] H → va_D A [(oc3 lw (.ref dr) (.ref tg) (.ref wy) (.ref br) (.ref bo) (.ref aa)), (oc6 dr (.ref dx) (.ref dy) (nI nd) rd), (oa dx cI cd P), (oa dy cI cd Q), (oc6 r (.ref rx) (.ref ry) (nI n) rg), (oa rx cI cap X), (oa ry cI cap Y), (oc6 u (.ref ux) (.ref uy) (nI m2) rh), (oa ux cI cap2 U), (oa uy cI cap2 V)] → va_S A s.heap H locs → lv_has ls 5 [(3, .int (nI k)), (0, .ref lw), (1, .ref r), (2, .ref u)] → W p l e ({ frames := 1, cells := 0, slots := 0, locals := 26 } : Room) s m ([.ref lw, .ref r, .ref u] : List Value).toArray below meth c H locs 0 0 Q9 (F0 m 2 ls []) := by
    intro n9
    induction n9 with
    | zero => intro k H locs ls hm; exact absurd hm (Nat.not_lt_zero _)
    | succ n9 ih_2 =>
      intro k H locs ls hm hk hall hP hD hS hl
      refine lv_iload_n hx hb dX4_holdsAsBefore_2 rfl (lv_at hl 0 rfl) ?_
      refine lv_aload_n hx hb dX4_holdsAsBefore_3 rfl (lv_at hl 3 rfl) ?_
      refine va_get (D := (dC, dI)) (ci := 6) (v := .int (nI m2)) (C := RX7) (T := TX7) (N := 4) hx hb hts inX7 hown hK hP 7 rfl rfl 2 (Nat.le_of_ble_eq_true rfl) (hts _ mw_176) (fun _ h9 => h9) rfl dX4_holdsAsBefore_4 ?_
      have b9_2 : zlt (k) := show k < 2147483648 by omega
      have b9_3 : zlt (m2) := show m2 < 2147483648 by omega
      refine lv_icmp_ge (tgt := 78) hx hb dX4_holdsAsBefore_7 rfl (fun c_1 => ?_) (fun c_1 => ?_)
      · have c_1 : ((m2 : Nat) : Int) ≤ ((k : Nat) : Int) := zc_le (nI_toInt b9_3) (nI_toInt b9_2) c_1
        refine lv_iconst (v := 1) hx hb dX4_holdsAsBefore_78 rfl ?_
        obtain ⟨hP9, hD9⟩ := zu_sub (wc := [_, _, _, _, _, _, _, _, _, _]) hP hD [true, true, true, true, true, true, true, true, true, true] rfl rfl
        rw [hQ9]
        exact W.zret (ty := .boolean) (v := 1) hx hb hr (rfl) (fun t ht hW => ⟨⟨congrArg (fun z => Outcome.returned (some (Value.int z))) (show (1 : Int32) = pI (∀ k, k < m2 → (inF 5 n X Y (U k).toInt (V k).toInt ↔ inF 5 nd P Q (U k).toInt (V k).toInt)) from (zp_t (fun j hj => hall j (by omega))).symm), by rw [ht]; exact hP9, hD9⟩, hS.F ht⟩) hS.2.2 dX4_holdsAsBefore_79
      · have c_1 : ((k : Nat) : Int) < ((m2 : Nat) : Int) := zc_nle (nI_toInt b9_3) (nI_toInt b9_2) c_1
        refine lv_aload_n hx hb dX4_holdsAsBefore_10 rfl (lv_at hl 2 rfl) ?_
        refine lv_aload_n hx hb dX4_holdsAsBefore_11 rfl (lv_at hl 3 rfl) ?_
        refine va_get (D := (dC, dI)) (ci := 6) (v := .ref ux) (C := RX7) (T := TX7) (N := 4) hx hb hts inX7 hown hK hP 7 rfl rfl 0 (Nat.le_of_ble_eq_true rfl) (hts _ mw_163) (fun _ h9 => h9) rfl dX4_holdsAsBefore_12 ?_
        refine lv_iload_n hx hb dX4_holdsAsBefore_15 rfl (lv_at hl 0 rfl) ?_
        have b9_4 : k < cap2 := by omega
        have b9_5 : zlt (cap2) := show cap2 < 2147483648 by omega
        refine z_iald hx hb hK hP 8 0 rfl rfl (e := k) rfl b9_4 b9_5 dX4_holdsAsBefore_16 ?_
        refine lv_aload_n hx hb dX4_holdsAsBefore_17 rfl (lv_at hl 3 rfl) ?_
        refine va_get (D := (dC, dI)) (ci := 6) (v := .ref uy) (C := RX7) (T := TX7) (N := 4) hx hb hts inX7 hown hK hP 7 rfl rfl 1 (Nat.le_of_ble_eq_true rfl) (hts _ mw_170) (fun _ h9 => h9) rfl dX4_holdsAsBefore_18 ?_
        refine lv_iload_n hx hb dX4_holdsAsBefore_21 rfl (lv_at hl 0 rfl) ?_
        refine z_iald hx hb hK hP 9 0 rfl rfl (e := k) rfl b9_4 b9_5 dX4_holdsAsBefore_22 ?_
        obtain ⟨hPc, hDc, hFc, hI1⟩ := zi_sub (wc := [_, _, _]) hP hD hS hA [4, 5, 6] rfl rfl
        refine zcall (st1 := [.int (whr n X Y (U k).toInt (V k).toInt)]) (va_runV (As := [.int (U k), .int (V k)]) (rest := []) ⟨hx, hb, hml, hown, hts⟩ (k_Row_where l dC dI cI cZ cF H.size r rx ry n cap X Y rg (U k) (V k) (by first | with_reducible assumption | omega) (by first | with_reducible assumption | omega) (hp) ((hq k (by first | with_reducible assumption | omega)).1) ((hq k (by first | with_reducible assumption | omega)).2)) (csV_38 hts rfl rfl ⟨Nat.le_of_ble_eq_true rfl, Nat.le_of_ble_eq_true rfl⟩) (zPV2 (q0 := 0) (ci := 6) hPc hDc hK hXN rfl rfl) rfl rfl hl.1 rfl (lv_room (Nat.le_of_ble_eq_true rfl)) dX4_holdsAsBefore_23 ⟨Nat.le_of_ble_eq_true rfl, Nat.le_of_ble_eq_true rfl⟩) hS hFc hFc rfl (fun t H locs ht hB hk1 hS => ?_)
        obtain ⟨hP1, hD1⟩ := hB
        rw [ht] at hP1
        replace hP := z0 hP hD hk1 hP1 hI1
        clear hk1 hPc hDc hFc hP1 hD1 ht hI1
        have hj_6 : W p l e ({ frames := 1, cells := 0, slots := 0, locals := 26 } : Room) s m ([.ref lw, .ref r, .ref u] : List Value).toArray below meth c H locs 0 0 Q9 (F0 m 35 ls [.int (pI (inF 5 n X Y (U k).toInt (V k).toInt))]) := by
          refine lv_istore (lv' := [(4, .int (pI (inF 5 n X Y (U k).toInt (V k).toInt))), (3, .int (nI k)), (0, .ref lw), (1, .ref r), (2, .ref u)]) hx hb dX4_holdsAsBefore_35 hl (Nat.le_of_ble_eq_true rfl) rfl (fun ls hl => ?_)
          refine lv_iload hx hb dX4_holdsAsBefore_37 (lv_at hl 0 rfl) ?_
          refine lv_aload_n hx hb dX4_holdsAsBefore_39 rfl (lv_at hl 2 rfl) ?_
          refine va_get (D := (dC, dI)) (ci := 3) (v := .ref dr) (C := RX4) (T := TX4) (N := 6) hx hb hts inX4 hown hK hP 0 rfl rfl 0 (Nat.le_of_ble_eq_true rfl) (hts _ mw_219) (fun _ h9 => h9) rfl dX4_holdsAsBefore_40 ?_
          refine lv_aload_n hx hb dX4_holdsAsBefore_43 rfl (lv_at hl 4 rfl) ?_
          refine va_get (D := (dC, dI)) (ci := 6) (v := .ref ux) (C := RX7) (T := TX7) (N := 4) hx hb hts inX7 hown hK hP 7 rfl rfl 0 (Nat.le_of_ble_eq_true rfl) (hts _ mw_163) (fun _ h9 => h9) rfl dX4_holdsAsBefore_44 ?_
          refine lv_iload_n hx hb dX4_holdsAsBefore_47 rfl (lv_at hl 1 rfl) ?_
          refine z_iald hx hb hK hP 8 0 rfl rfl (e := k) rfl b9_4 b9_5 dX4_holdsAsBefore_48 ?_
          refine lv_aload_n hx hb dX4_holdsAsBefore_49 rfl (lv_at hl 4 rfl) ?_
          refine va_get (D := (dC, dI)) (ci := 6) (v := .ref uy) (C := RX7) (T := TX7) (N := 4) hx hb hts inX7 hown hK hP 7 rfl rfl 1 (Nat.le_of_ble_eq_true rfl) (hts _ mw_170) (fun _ h9 => h9) rfl dX4_holdsAsBefore_50 ?_
          refine lv_iload_n hx hb dX4_holdsAsBefore_53 rfl (lv_at hl 1 rfl) ?_
          refine z_iald hx hb hK hP 9 0 rfl rfl (e := k) rfl b9_4 b9_5 dX4_holdsAsBefore_54 ?_
          obtain ⟨hPc, hDc, hFc, hI1⟩ := zi_sub (wc := [_, _, _]) hP hD hS hA [1, 2, 3] rfl rfl
          refine zcall (st1 := [.int (whr nd P Q (U k).toInt (V k).toInt), .int (pI (inF 5 n X Y (U k).toInt (V k).toInt))]) (va_runV (As := [.int (U k), .int (V k)]) (rest := [.int (pI (inF 5 n X Y (U k).toInt (V k).toInt))]) ⟨hx, hb, hml, hown, hts⟩ (k_Row_where l dC dI cI cZ cF H.size dr dx dy nd cd P Q rd (U k) (V k) (by first | with_reducible assumption | omega) (by first | with_reducible assumption | omega) (hpd) ((hq k (by first | with_reducible assumption | omega)).1) ((hq k (by first | with_reducible assumption | omega)).2)) (csV_38 hts rfl rfl ⟨Nat.le_of_ble_eq_true rfl, Nat.le_of_ble_eq_true rfl⟩) (zPV2 (q0 := 0) (ci := 6) hPc hDc hK hXN rfl rfl) rfl rfl hl.1 rfl (lv_room (Nat.le_of_ble_eq_true rfl)) dX4_holdsAsBefore_55 ⟨Nat.le_of_ble_eq_true rfl, Nat.le_of_ble_eq_true rfl⟩) hS hFc hFc rfl (fun t H locs ht hB hk1 hS => ?_)
          obtain ⟨hP1, hD1⟩ := hB
          rw [ht] at hP1
          replace hP := z0 hP hD hk1 hP1 hI1
          clear hk1 hPc hDc hFc hP1 hD1 ht hI1
          have hj_7 : W p l e ({ frames := 1, cells := 0, slots := 0, locals := 26 } : Room) s m ([.ref lw, .ref r, .ref u] : List Value).toArray below meth c H locs 0 0 Q9 (F0 m 67 ls [.int (pI (inF 5 nd P Q (U k).toInt (V k).toInt)), .int (pI (inF 5 n X Y (U k).toInt (V k).toInt))]) := by
            refine lv_icmp_eq (tgt := 72) hx hb dX4_holdsAsBefore_67 rfl (fun c_8 => ?_) (fun c_8 => ?_)
            · have c_8 : (pI (inF 5 n X Y (U k).toInt (V k).toInt)).toInt = (pI (inF 5 nd P Q (U k).toInt (V k).toInt)).toInt := zc_eq rfl rfl c_8
              refine lv_iinc (v := nI (k + 1)) (lv' := [(3, .int (nI (k + 1))), (4, .int (pI (inF 5 n X Y (U k).toInt (V k).toInt))), (0, .ref lw), (1, .ref r), (2, .ref u)]) hx hb dX4_holdsAsBefore_72 hl (k := 1) rfl (nI_add k 1) (Nat.le_of_ble_eq_true rfl) rfl (fun ls hl => ?_)
              refine lv_goto (tgt := 2) hx hb dX4_holdsAsBefore_75 rfl ?_
              exact ih_2 (k + 1) H locs ls (by first | with_reducible assumption | omega) (by first | with_reducible assumption | omega) (by intro j hj; rcases Nat.lt_or_ge j k with h | h; exact hall j h; rw [show j = k by omega]; exact zp_ieq.mp (by first | with_reducible assumption | assumption)) hP hD hS (lv_sub hl [0, 2, 3, 4] rfl)
            · have c_8 : ¬ (pI (inF 5 n X Y (U k).toInt (V k).toInt)).toInt = (pI (inF 5 nd P Q (U k).toInt (V k).toInt)).toInt := zc_ne rfl rfl c_8
              refine lv_iconst (v := 0) hx hb dX4_holdsAsBefore_70 rfl ?_
              obtain ⟨hP9, hD9⟩ := zu_sub (wc := [_, _, _, _, _, _, _, _, _, _]) hP hD [true, true, true, true, true, true, true, true, true, true] rfl rfl
              rw [hQ9]
              exact W.zret (ty := .boolean) (v := 0) hx hb hr (rfl) (fun t ht hW => ⟨⟨congrArg (fun z => Outcome.returned (some (Value.int z))) (show (0 : Int32) = pI (∀ k, k < m2 → (inF 5 n X Y (U k).toInt (V k).toInt ↔ inF 5 nd P Q (U k).toInt (V k).toInt)) from (zp_f (fun h => absurd (zp_ieq.mpr (h k (by omega))) (by first | with_reducible assumption | assumption))).symm), by rw [ht]; exact hP9, hD9⟩, hS.F ht⟩) hS.2.2 dX4_holdsAsBefore_71
          refine lv_iconst (v := 1) hx hb dX4_holdsAsBefore_58 rfl ?_
          refine lv_icmp_ne (tgt := 66) hx hb dX4_holdsAsBefore_59 rfl (fun c_9 => ?_) (fun c_9 => ?_)
          · have c_9 : ¬ (whr nd P Q (U k).toInt (V k).toInt).toInt = 1 := zc_ne rfl rfl c_9
            refine lv_iconst (v := 0) hx hb dX4_holdsAsBefore_66 rfl ?_
            refine zz_i (v := pI (inF 5 nd P Q (U k).toInt (V k).toInt)) (by first | exact (zp_t (whr_in.mp (by first | with_reducible assumption | assumption))).symm | exact (zp_f (fun h => absurd (whr_in.mpr h) (by first | with_reducible assumption | assumption))).symm) ?_
            exact hj_7 
          · have c_9 : (whr nd P Q (U k).toInt (V k).toInt).toInt = 1 := zc_eq rfl rfl c_9
            refine lv_iconst (v := 1) hx hb dX4_holdsAsBefore_62 rfl ?_
            refine lv_goto (tgt := 67) hx hb dX4_holdsAsBefore_63 rfl ?_
            refine zz_i (v := pI (inF 5 nd P Q (U k).toInt (V k).toInt)) (by first | exact (zp_t (whr_in.mp (by first | with_reducible assumption | assumption))).symm | exact (zp_f (fun h => absurd (whr_in.mpr h) (by first | with_reducible assumption | assumption))).symm) ?_
            exact hj_7 
        refine lv_iconst (v := 1) hx hb dX4_holdsAsBefore_26 rfl ?_
        refine lv_icmp_ne (tgt := 34) hx hb dX4_holdsAsBefore_27 rfl (fun c_10 => ?_) (fun c_10 => ?_)
        · have c_10 : ¬ (whr n X Y (U k).toInt (V k).toInt).toInt = 1 := zc_ne rfl rfl c_10
          refine lv_iconst (v := 0) hx hb dX4_holdsAsBefore_34 rfl ?_
          refine zz_i (v := pI (inF 5 n X Y (U k).toInt (V k).toInt)) (by first | exact (zp_t (whr_in.mp (by first | with_reducible assumption | assumption))).symm | exact (zp_f (fun h => absurd (whr_in.mpr h) (by first | with_reducible assumption | assumption))).symm) ?_
          exact hj_6 
        · have c_10 : (whr n X Y (U k).toInt (V k).toInt).toInt = 1 := zc_eq rfl rfl c_10
          refine lv_iconst (v := 1) hx hb dX4_holdsAsBefore_30 rfl ?_
          refine lv_goto (tgt := 35) hx hb dX4_holdsAsBefore_31 rfl ?_
          refine zz_i (v := pI (inF 5 n X Y (U k).toInt (V k).toInt)) (by first | exact (zp_t (whr_in.mp (by first | with_reducible assumption | assumption))).symm | exact (zp_f (fun h => absurd (whr_in.mpr h) (by first | with_reducible assumption | assumption))).symm) ?_
          exact hj_6 
  exact hl_2 _ 0 s.heap [] ls (Nat.lt_succ_self _) (by first | with_reducible assumption | omega) (by intro j hj; omega) hP hD hS (lv_sub hl [0, 1, 2, 3] rfl)
set_option maxHeartbeats 4000000 in
set_option maxRecDepth 100000 in
theorem k_Law_leadsTo (l : Launch) (dC : Nat → ClassId) (dI : Nat → Nat → Nat) (cI cZ cF : ClassId) (sz : Nat) (lw : Nat) (dr : Nat) (tg : Nat) (wy : Nat) (br : Nat) (bo : Nat) (aa : Nat) (wx : Nat) (wz : Nat) (WX : Nat → Int32) (WY : Nat → Int32) (rw : Int32) (px : Int32) (py : Int32) (hpw : pls 2 WX WY) (hpx : pl px) (hpy : pl py) : zM l yX4_leadsTo cX4_leadsTo 4 (some .boolean) ({ frames := 1, cells := 0, slots := 0, locals := 24 } : Room) [.ref lw, .int px, .int py] (dC, dI) (zTy cI cZ cF) [(oc3 lw (.ref dr) (.ref tg) (.ref wy) (.ref br) (.ref bo) (.ref aa)), (oc6 wy (.ref wx) (.ref wz) (nI 2) rw), (oa wx cI 2 WX), (oa wz cI 2 WY)] sz (some (.int (pI (ldT (WX 0).toInt (WY 0).toInt (WX 1).toInt (WY 1).toInt px.toInt py.toInt)))) (fun A t => zPD (dC, dI) classes A [(oc3 lw (.ref dr) (.ref tg) (.ref wy) (.ref br) (.ref bo) (.ref aa)), (oc6 wy (.ref wx) (.ref wz) (nI 2) rw), (oa wx cI 2 WX), (oa wz cI 2 WY)] t.heap) 0 0 := by
  refine zIn (own := "ScaleShop$Law") (loc := [(0, .ref lw), (1, .int px), (2, .int py)]) rfl rfl rfl rfl (fun p e s m below meth c hx hb hr hts hown hlocks hml hnm9 A hA hS hP hD hK hXN Q9 hQ9 ls hl => ?_)
  have hTb := nrT_b (hpw 0 (by omega)).1 (hpw 0 (by omega)).2 (hpw 1 (by omega)).1 (hpw 1 (by omega)).2 hpx hpy
  have hCb := crBp (hpw 0 (by omega)).1 (hpw 0 (by omega)).2 (hpw 1 (by omega)).1 (hpw 1 (by omega)).2 hpx hpy
  have e9 : eCr 2 WX WY 0 px.toInt py.toInt = cr (WX 0).toInt (WY 0).toInt (WX 1).toInt (WY 1).toInt px.toInt py.toInt := rfl
  refine lv_aload_n hx hb dX4_leadsTo_0 rfl (lv_at hl 0 rfl) ?_
  refine va_get (D := (dC, dI)) (ci := 3) (v := .ref wy) (C := RX4) (T := TX4) (N := 6) hx hb hts inX4 hown hK hP 0 rfl rfl 2 (Nat.le_of_ble_eq_true rfl) (hts _ mw_222) (fun _ h9 => h9) rfl dX4_leadsTo_1 ?_
  refine va_get (D := (dC, dI)) (ci := 6) (v := .ref wx) (C := RX7) (T := TX7) (N := 4) hx hb hts inX7 hown hK hP 1 rfl rfl 0 (Nat.le_of_ble_eq_true rfl) (hts _ mw_163) (fun _ h9 => h9) rfl dX4_leadsTo_4 ?_
  refine lv_iconst (v := 1) hx hb dX4_leadsTo_7 rfl ?_
  refine z_iald hx hb hK hP 2 0 rfl rfl (e := 1) rfl (Nat.le_of_ble_eq_true rfl) (Nat.le_of_ble_eq_true rfl) dX4_leadsTo_8 ?_
  refine lv_aload_n hx hb dX4_leadsTo_9 rfl (lv_at hl 0 rfl) ?_
  refine va_get (D := (dC, dI)) (ci := 3) (v := .ref wy) (C := RX4) (T := TX4) (N := 6) hx hb hts inX4 hown hK hP 0 rfl rfl 2 (Nat.le_of_ble_eq_true rfl) (hts _ mw_222) (fun _ h9 => h9) rfl dX4_leadsTo_10 ?_
  refine va_get (D := (dC, dI)) (ci := 6) (v := .ref wx) (C := RX7) (T := TX7) (N := 4) hx hb hts inX7 hown hK hP 1 rfl rfl 0 (Nat.le_of_ble_eq_true rfl) (hts _ mw_163) (fun _ h9 => h9) rfl dX4_leadsTo_13 ?_
  refine lv_iconst (v := 0) hx hb dX4_leadsTo_16 rfl ?_
  refine z_iald hx hb hK hP 2 0 rfl rfl (e := 0) rfl (Nat.le_of_ble_eq_true rfl) (Nat.le_of_ble_eq_true rfl) dX4_leadsTo_17 ?_
  refine lv_isub hx hb dX4_leadsTo_18 ?_
  refine lv_iload_n hx hb dX4_leadsTo_19 rfl (lv_at hl 1 rfl) ?_
  refine lv_aload_n hx hb dX4_leadsTo_20 rfl (lv_at hl 0 rfl) ?_
  refine va_get (D := (dC, dI)) (ci := 3) (v := .ref wy) (C := RX4) (T := TX4) (N := 6) hx hb hts inX4 hown hK hP 0 rfl rfl 2 (Nat.le_of_ble_eq_true rfl) (hts _ mw_222) (fun _ h9 => h9) rfl dX4_leadsTo_21 ?_
  refine va_get (D := (dC, dI)) (ci := 6) (v := .ref wx) (C := RX7) (T := TX7) (N := 4) hx hb hts inX7 hown hK hP 1 rfl rfl 0 (Nat.le_of_ble_eq_true rfl) (hts _ mw_163) (fun _ h9 => h9) rfl dX4_leadsTo_24 ?_
  refine lv_iconst (v := 0) hx hb dX4_leadsTo_27 rfl ?_
  refine z_iald hx hb hK hP 2 0 rfl rfl (e := 0) rfl (Nat.le_of_ble_eq_true rfl) (Nat.le_of_ble_eq_true rfl) dX4_leadsTo_28 ?_
  refine lv_isub hx hb dX4_leadsTo_29 ?_
  refine lv_imul hx hb dX4_leadsTo_30 ?_
  refine lv_aload_n hx hb dX4_leadsTo_31 rfl (lv_at hl 0 rfl) ?_
  refine va_get (D := (dC, dI)) (ci := 3) (v := .ref wy) (C := RX4) (T := TX4) (N := 6) hx hb hts inX4 hown hK hP 0 rfl rfl 2 (Nat.le_of_ble_eq_true rfl) (hts _ mw_222) (fun _ h9 => h9) rfl dX4_leadsTo_32 ?_
  refine va_get (D := (dC, dI)) (ci := 6) (v := .ref wz) (C := RX7) (T := TX7) (N := 4) hx hb hts inX7 hown hK hP 1 rfl rfl 1 (Nat.le_of_ble_eq_true rfl) (hts _ mw_170) (fun _ h9 => h9) rfl dX4_leadsTo_35 ?_
  refine lv_iconst (v := 1) hx hb dX4_leadsTo_38 rfl ?_
  refine z_iald hx hb hK hP 3 0 rfl rfl (e := 1) rfl (Nat.le_of_ble_eq_true rfl) (Nat.le_of_ble_eq_true rfl) dX4_leadsTo_39 ?_
  refine lv_aload_n hx hb dX4_leadsTo_40 rfl (lv_at hl 0 rfl) ?_
  refine va_get (D := (dC, dI)) (ci := 3) (v := .ref wy) (C := RX4) (T := TX4) (N := 6) hx hb hts inX4 hown hK hP 0 rfl rfl 2 (Nat.le_of_ble_eq_true rfl) (hts _ mw_222) (fun _ h9 => h9) rfl dX4_leadsTo_41 ?_
  refine va_get (D := (dC, dI)) (ci := 6) (v := .ref wz) (C := RX7) (T := TX7) (N := 4) hx hb hts inX7 hown hK hP 1 rfl rfl 1 (Nat.le_of_ble_eq_true rfl) (hts _ mw_170) (fun _ h9 => h9) rfl dX4_leadsTo_44 ?_
  refine lv_iconst (v := 0) hx hb dX4_leadsTo_47 rfl ?_
  refine z_iald hx hb hK hP 3 0 rfl rfl (e := 0) rfl (Nat.le_of_ble_eq_true rfl) (Nat.le_of_ble_eq_true rfl) dX4_leadsTo_48 ?_
  refine lv_isub hx hb dX4_leadsTo_49 ?_
  refine lv_iload_n hx hb dX4_leadsTo_50 rfl (lv_at hl 2 rfl) ?_
  refine lv_aload_n hx hb dX4_leadsTo_51 rfl (lv_at hl 0 rfl) ?_
  refine va_get (D := (dC, dI)) (ci := 3) (v := .ref wy) (C := RX4) (T := TX4) (N := 6) hx hb hts inX4 hown hK hP 0 rfl rfl 2 (Nat.le_of_ble_eq_true rfl) (hts _ mw_222) (fun _ h9 => h9) rfl dX4_leadsTo_52 ?_
  refine va_get (D := (dC, dI)) (ci := 6) (v := .ref wz) (C := RX7) (T := TX7) (N := 4) hx hb hts inX7 hown hK hP 1 rfl rfl 1 (Nat.le_of_ble_eq_true rfl) (hts _ mw_170) (fun _ h9 => h9) rfl dX4_leadsTo_55 ?_
  refine lv_iconst (v := 0) hx hb dX4_leadsTo_58 rfl ?_
  refine z_iald hx hb hK hP 3 0 rfl rfl (e := 0) rfl (Nat.le_of_ble_eq_true rfl) (Nat.le_of_ble_eq_true rfl) dX4_leadsTo_59 ?_
  refine lv_isub hx hb dX4_leadsTo_60 ?_
  refine lv_imul hx hb dX4_leadsTo_61 ?_
  refine lv_iadd hx hb dX4_leadsTo_62 ?_
  refine zz_i (v := iI (nrT (WX 0).toInt (WY 0).toInt (WX 1).toInt (WY 1).toInt px.toInt py.toInt)) (in_dot (hpw 0 (by omega)).1 (hpw 0 (by omega)).2 (hpw 1 (by omega)).1 (hpw 1 (by omega)).2 hpx hpy) ?_
  refine lv_istore_n (lv' := [(3, .int (iI (nrT (WX 0).toInt (WY 0).toInt (WX 1).toInt (WY 1).toInt px.toInt py.toInt))), (0, .ref lw), (1, .int px), (2, .int py)]) hx hb dX4_leadsTo_63 rfl hl (Nat.le_of_ble_eq_true rfl) rfl (fun ls hl => ?_)
  refine lv_aload_n hx hb dX4_leadsTo_64 rfl (lv_at hl 1 rfl) ?_
  refine va_get (D := (dC, dI)) (ci := 3) (v := .ref wy) (C := RX4) (T := TX4) (N := 6) hx hb hts inX4 hown hK hP 0 rfl rfl 2 (Nat.le_of_ble_eq_true rfl) (hts _ mw_222) (fun _ h9 => h9) rfl dX4_leadsTo_65 ?_
  refine lv_iconst (v := 0) hx hb dX4_leadsTo_68 rfl ?_
  refine lv_iload_n hx hb dX4_leadsTo_69 rfl (lv_at hl 2 rfl) ?_
  refine lv_iload_n hx hb dX4_leadsTo_70 rfl (lv_at hl 3 rfl) ?_
  obtain ⟨hPc, hDc, hFc, hI1⟩ := zi_sub (wc := [_, _, _]) hP hD hS hA [1, 2, 3] rfl rfl
  refine zcall (st1 := [.int (iI (eCr 2 WX WY 0 px.toInt py.toInt))]) (va_runV (As := [.int 0, .int px, .int py]) (rest := []) ⟨hx, hb, hml, hown, hts⟩ (k_Row_turn l dC dI cI cZ cF s.heap.size wy wx wz 2 2 WX WY rw 0 px py (by first | with_reducible assumption | omega) (by first | with_reducible assumption | omega) (hpw) (by first | with_reducible assumption | omega) (by first | with_reducible assumption | assumption) (by first | with_reducible assumption | assumption)) (csV_39 hts rfl rfl ⟨Nat.le_of_ble_eq_true rfl, Nat.le_of_ble_eq_true rfl⟩) (zPV2 (q0 := 0) (ci := 6) hPc hDc hK hXN rfl rfl) rfl rfl hl.1 rfl (lv_room (Nat.le_of_ble_eq_true rfl)) dX4_leadsTo_71 ⟨Nat.le_of_ble_eq_true rfl, Nat.le_of_ble_eq_true rfl⟩) hS hFc hFc rfl (fun t H locs ht hB hk1 hS => ?_)
  obtain ⟨hP1, hD1⟩ := hB
  rw [ht] at hP1
  replace hP := z0 hP hD hk1 hP1 hI1
  clear hk1 hPc hDc hFc hP1 hD1 ht hI1
  refine lv_if_ne (tgt := 85) hx hb dX4_leadsTo_74 rfl (fun c_1 => ?_) (fun c_1 => ?_)
  · have c_1 : ¬ (eCr 2 WX WY 0 px.toInt py.toInt) = 0 := zc_ne (iI_toInt (by omega)) rfl c_1
    refine lv_iconst (v := 0) hx hb dX4_leadsTo_85 rfl ?_
    obtain ⟨hP9, hD9⟩ := zu_sub (wc := [_, _, _, _]) hP hD [true, true, true, true] rfl rfl
    rw [hQ9]
    exact W.zret (ty := .boolean) (v := 0) hx hb hr (rfl) (fun t ht hW => ⟨⟨congrArg (fun z => Outcome.returned (some (Value.int z))) (show (0 : Int32) = pI (ldT (WX 0).toInt (WY 0).toInt (WX 1).toInt (WY 1).toInt px.toInt py.toInt) from (zp_f (by unfold ldT; omega)).symm), by rw [ht]; exact hP9, hD9⟩, hS.F ht⟩) hS.2.2 dX4_leadsTo_86
  · have c_1 : (eCr 2 WX WY 0 px.toInt py.toInt) = 0 := zc_eq (iI_toInt (by omega)) rfl c_1
    refine lv_iload_n hx hb dX4_leadsTo_77 rfl (lv_at hl 0 rfl) ?_
    refine lv_if_le (tgt := 85) hx hb dX4_leadsTo_78 rfl (fun c_2 => ?_) (fun c_2 => ?_)
    · have c_2 : (nrT (WX 0).toInt (WY 0).toInt (WX 1).toInt (WY 1).toInt px.toInt py.toInt) ≤ 0 := zc_le (iI_toInt (by omega)) rfl c_2
      refine lv_iconst (v := 0) hx hb dX4_leadsTo_85 rfl ?_
      obtain ⟨hP9, hD9⟩ := zu_sub (wc := [_, _, _, _]) hP hD [true, true, true, true] rfl rfl
      rw [hQ9]
      exact W.zret (ty := .boolean) (v := 0) hx hb hr (rfl) (fun t ht hW => ⟨⟨congrArg (fun z => Outcome.returned (some (Value.int z))) (show (0 : Int32) = pI (ldT (WX 0).toInt (WY 0).toInt (WX 1).toInt (WY 1).toInt px.toInt py.toInt) from (zp_f (by unfold ldT; omega)).symm), by rw [ht]; exact hP9, hD9⟩, hS.F ht⟩) hS.2.2 dX4_leadsTo_86
    · have c_2 : 0 < (nrT (WX 0).toInt (WY 0).toInt (WX 1).toInt (WY 1).toInt px.toInt py.toInt) := zc_nle (iI_toInt (by omega)) rfl c_2
      refine lv_iconst (v := 1) hx hb dX4_leadsTo_81 rfl ?_
      refine lv_goto (tgt := 86) hx hb dX4_leadsTo_82 rfl ?_
      obtain ⟨hP9, hD9⟩ := zu_sub (wc := [_, _, _, _]) hP hD [true, true, true, true] rfl rfl
      rw [hQ9]
      exact W.zret (ty := .boolean) (v := 1) hx hb hr (rfl) (fun t ht hW => ⟨⟨congrArg (fun z => Outcome.returned (some (Value.int z))) (show (1 : Int32) = pI (ldT (WX 0).toInt (WY 0).toInt (WX 1).toInt (WY 1).toInt px.toInt py.toInt) from (zp_t (by unfold ldT; omega)).symm), by rw [ht]; exact hP9, hD9⟩, hS.F ht⟩) hS.2.2 dX4_leadsTo_86
set_option maxHeartbeats 4000000 in
set_option maxRecDepth 100000 in
theorem k_Law_isWayFree (l : Launch) (dC : Nat → ClassId) (dI : Nat → Nat → Nat) (cI cZ cF : ClassId) (sz : Nat) (lw : Nat) (dr : Nat) (tg : Nat) (wy : Nat) (br : Nat) (bo : Nat) (aa : Nat) (wx : Nat) (wz : Nat) (nw : Nat) (WX : Nat → Int32) (WY : Nat → Int32) (rw : Int32) (dx : Nat) (dy : Nat) (nd : Nat) (cd : Nat) (P : Nat → Int32) (Q : Nat → Int32) (rd : Int32) (r : Nat) (rx : Nat) (ry : Nat) (n : Nat) (cap : Nat) (X : Nat → Int32) (Y : Nat → Int32) (rg : Int32) (u : Nat) (ux : Nat) (uy : Nat) (m2 : Nat) (cap2 : Nat) (U : Nat → Int32) (V : Nat → Int32) (rh : Int32) (hnd : nd ≤ cd) (hcd : cd ≤ 1000) (hpd : pls nd P Q) (hn : n ≤ cap) (hcap : cap ≤ 1000) (hp : pls n X Y) (hm : m2 ≤ cap2) (hcap2 : cap2 ≤ 1000) (hq : pls m2 U V) (h1n : 1 ≤ n) (h1d : 1 ≤ nd) : zM l yX4_isWayFree cX4_isWayFree 5 (some .boolean) ({ frames := 2, cells := 0, slots := 0, locals := 48 } : Room) [.ref lw, .ref r, .ref u] (dC, dI) (zTy cI cZ cF) [(oc3 lw (.ref dr) (.ref tg) (.ref wy) (.ref br) (.ref bo) (.ref aa)), (oc6 wy (.ref wx) (.ref wz) (nI nw) rw), (oa wx cI 2 WX), (oa wz cI 2 WY), (oc6 dr (.ref dx) (.ref dy) (nI nd) rd), (oa dx cI cd P), (oa dy cI cd Q), (oc6 r (.ref rx) (.ref ry) (nI n) rg), (oa rx cI cap X), (oa ry cI cap Y), (oc6 u (.ref ux) (.ref uy) (nI m2) rh), (oa ux cI cap2 U), (oa uy cI cap2 V)] sz (some (.int (pI (∀ k, k < prt m2 rh → wyF2 (X 0).toInt (Y 0).toInt (P 0).toInt (Q 0).toInt m2 U V k)))) (fun A t => zPD (dC, dI) classes A [(oc3 lw (.ref dr) (.ref tg) (.ref wy) (.ref br) (.ref bo) (.ref aa)), (oc6 wy (.ref wx) (.ref wz) (nI 2) 0), (oa wx cI 2 (upd (upd WX 0 (X 0)) 1 (P 0))), (oa wz cI 2 (upd (upd WY 0 (Y 0)) 1 (Q 0))), (oc6 dr (.ref dx) (.ref dy) (nI nd) rd), (oa dx cI cd P), (oa dy cI cd Q), (oc6 r (.ref rx) (.ref ry) (nI n) rg), (oa rx cI cap X), (oa ry cI cap Y), (oc6 u (.ref ux) (.ref uy) (nI m2) rh), (oa ux cI cap2 U), (oa uy cI cap2 V)] t.heap) 0 0 := by
  refine zIn (own := "ScaleShop$Law") (loc := [(0, .ref lw), (1, .ref r), (2, .ref u)]) rfl rfl rfl rfl (fun p e s m below meth c hx hb hr hts hown hlocks hml hnm9 A hA hS hP hD hK hXN Q9 hQ9 ls hl => ?_)
  have hpr2 := prt_le m2 rh
  have h0x := hp 0 (by omega)
  have h0p := hpd 0 (by omega)
  have hpw := wy_pl (T := WX) (S := WY) h0x.1 h0x.2 h0p.1 h0p.2
  refine lv_aload_n hx hb dX4_isWayFree_0 rfl (lv_at hl 0 rfl) ?_
  refine va_get (D := (dC, dI)) (ci := 3) (v := .ref wy) (C := RX4) (T := TX4) (N := 6) hx hb hts inX4 hown hK hP 0 rfl rfl 2 (Nat.le_of_ble_eq_true rfl) (hts _ mw_222) (fun _ h9 => h9) rfl dX4_isWayFree_1 ?_
  refine lv_iconst (v := 0) hx hb dX4_isWayFree_4 rfl ?_
  obtain ⟨hPc, hDc, hFc⟩ := zo_sub (wc := [_, _, _]) hP hD hS hA [1, 2, 3] rfl rfl
  refine zcall (st1 := []) (va_runV (As := [.int 0]) (rest := []) ⟨hx, hb, hml, hown, hts⟩ (k_Row_clear l dC dI cI cZ cF s.heap.size wy wx wz nw 2 WX WY rw 0 (Or.inl rfl)) (csV_40 hts rfl rfl ⟨Nat.le_of_ble_eq_true rfl, Nat.le_of_ble_eq_true rfl⟩) (zPV2 (q0 := 0) (ci := 6) hPc hDc hK hXN rfl rfl) rfl rfl hl.1 rfl (lv_room (Nat.le_of_ble_eq_true rfl)) dX4_isWayFree_5 ⟨Nat.le_of_ble_eq_true rfl, Nat.le_of_ble_eq_true rfl⟩) hS hFc hFc rfl (fun t H locs ht hB hk1 hS => ?_)
  obtain ⟨hP1, hD1⟩ := hB
  rw [ht] at hP1
  obtain ⟨hP, hD⟩ := zn (W2 := [_, (oc6 wy (.ref wx) (.ref wz) (nI 0) 0), _, _, _, _, _, _, _, _, _, _, _]) hP hD hk1 hFc hP1 hD1 [1, 2, 3] zl_9 zl_9 [1, 2, 3] (by decide +kernel) rfl rfl rfl rfl rfl
  clear hk1 hPc hDc hFc hP1 hD1 ht
  refine lv_aload_n hx hb dX4_isWayFree_8 rfl (lv_at hl 0 rfl) ?_
  refine va_get (D := (dC, dI)) (ci := 3) (v := .ref wy) (C := RX4) (T := TX4) (N := 6) hx hb hts inX4 hown hK hP 0 rfl rfl 2 (Nat.le_of_ble_eq_true rfl) (hts _ mw_222) (fun _ h9 => h9) rfl dX4_isWayFree_9 ?_
  refine lv_aload_n hx hb dX4_isWayFree_12 rfl (lv_at hl 1 rfl) ?_
  refine va_get (D := (dC, dI)) (ci := 6) (v := .ref rx) (C := RX7) (T := TX7) (N := 4) hx hb hts inX7 hown hK hP 7 rfl rfl 0 (Nat.le_of_ble_eq_true rfl) (hts _ mw_163) (fun _ h9 => h9) rfl dX4_isWayFree_13 ?_
  refine lv_iconst (v := 0) hx hb dX4_isWayFree_16 rfl ?_
  have b9_1 : 0 < cap := by omega
  have b9_2 : zlt (cap) := show cap < 2147483648 by omega
  refine z_iald hx hb hK hP 8 0 rfl rfl (e := 0) rfl b9_1 b9_2 dX4_isWayFree_17 ?_
  refine lv_aload_n hx hb dX4_isWayFree_18 rfl (lv_at hl 1 rfl) ?_
  refine va_get (D := (dC, dI)) (ci := 6) (v := .ref ry) (C := RX7) (T := TX7) (N := 4) hx hb hts inX7 hown hK hP 7 rfl rfl 1 (Nat.le_of_ble_eq_true rfl) (hts _ mw_170) (fun _ h9 => h9) rfl dX4_isWayFree_19 ?_
  refine lv_iconst (v := 0) hx hb dX4_isWayFree_22 rfl ?_
  refine z_iald hx hb hK hP 9 0 rfl rfl (e := 0) rfl b9_1 b9_2 dX4_isWayFree_23 ?_
  obtain ⟨hPc, hDc, hFc⟩ := zo_sub (wc := [_, _, _]) hP hD hS hA [1, 2, 3] rfl rfl
  refine zcall (st1 := []) (va_runV (As := [.int (X 0), .int (Y 0)]) (rest := []) ⟨hx, hb, hml, hown, hts⟩ (k_Row_put l dC dI cI cZ cF H.size wy wx wz 0 2 WX WY 0 (X 0) (Y 0) (by first | with_reducible assumption | omega) (by first | with_reducible assumption | omega)) (csV_41 hts rfl rfl ⟨Nat.le_of_ble_eq_true rfl, Nat.le_of_ble_eq_true rfl⟩) (zPV2 (q0 := 0) (ci := 6) hPc hDc hK hXN rfl rfl) rfl rfl hl.1 rfl (lv_room (Nat.le_of_ble_eq_true rfl)) dX4_isWayFree_24 ⟨Nat.le_of_ble_eq_true rfl, Nat.le_of_ble_eq_true rfl⟩) hS hFc hFc rfl (fun t H locs ht hB hk1 hS => ?_)
  obtain ⟨hP1, hD1⟩ := hB
  rw [ht] at hP1
  obtain ⟨hP, hD⟩ := zn (W2 := [_, (oc6 wy (.ref wx) (.ref wz) (nI (0 + 1)) 0), (oa wx cI 2 (upd WX 0 (X 0))), (oa wz cI 2 (upd WY 0 (Y 0))), _, _, _, _, _, _, _, _, _]) hP hD hk1 hFc hP1 hD1 [1, 2, 3] zl_9 zl_9 [1, 2, 3] (by decide +kernel) rfl rfl rfl rfl rfl
  clear hk1 hPc hDc hFc hP1 hD1 ht
  refine lv_aload_n hx hb dX4_isWayFree_27 rfl (lv_at hl 0 rfl) ?_
  refine va_get (D := (dC, dI)) (ci := 3) (v := .ref wy) (C := RX4) (T := TX4) (N := 6) hx hb hts inX4 hown hK hP 0 rfl rfl 2 (Nat.le_of_ble_eq_true rfl) (hts _ mw_222) (fun _ h9 => h9) rfl dX4_isWayFree_28 ?_
  refine lv_aload_n hx hb dX4_isWayFree_31 rfl (lv_at hl 0 rfl) ?_
  refine va_get (D := (dC, dI)) (ci := 3) (v := .ref dr) (C := RX4) (T := TX4) (N := 6) hx hb hts inX4 hown hK hP 0 rfl rfl 0 (Nat.le_of_ble_eq_true rfl) (hts _ mw_219) (fun _ h9 => h9) rfl dX4_isWayFree_32 ?_
  refine va_get (D := (dC, dI)) (ci := 6) (v := .ref dx) (C := RX7) (T := TX7) (N := 4) hx hb hts inX7 hown hK hP 4 rfl rfl 0 (Nat.le_of_ble_eq_true rfl) (hts _ mw_163) (fun _ h9 => h9) rfl dX4_isWayFree_35 ?_
  refine lv_iconst (v := 0) hx hb dX4_isWayFree_38 rfl ?_
  have b9_3 : 0 < cd := by omega
  have b9_4 : zlt (cd) := show cd < 2147483648 by omega
  refine z_iald hx hb hK hP 5 0 rfl rfl (e := 0) rfl b9_3 b9_4 dX4_isWayFree_39 ?_
  refine lv_aload_n hx hb dX4_isWayFree_40 rfl (lv_at hl 0 rfl) ?_
  refine va_get (D := (dC, dI)) (ci := 3) (v := .ref dr) (C := RX4) (T := TX4) (N := 6) hx hb hts inX4 hown hK hP 0 rfl rfl 0 (Nat.le_of_ble_eq_true rfl) (hts _ mw_219) (fun _ h9 => h9) rfl dX4_isWayFree_41 ?_
  refine va_get (D := (dC, dI)) (ci := 6) (v := .ref dy) (C := RX7) (T := TX7) (N := 4) hx hb hts inX7 hown hK hP 4 rfl rfl 1 (Nat.le_of_ble_eq_true rfl) (hts _ mw_170) (fun _ h9 => h9) rfl dX4_isWayFree_44 ?_
  refine lv_iconst (v := 0) hx hb dX4_isWayFree_47 rfl ?_
  refine z_iald hx hb hK hP 6 0 rfl rfl (e := 0) rfl b9_3 b9_4 dX4_isWayFree_48 ?_
  obtain ⟨hPc, hDc, hFc⟩ := zo_sub (wc := [_, _, _]) hP hD hS hA [1, 2, 3] rfl rfl
  refine zcall (st1 := []) (va_runV (As := [.int (P 0), .int (Q 0)]) (rest := []) ⟨hx, hb, hml, hown, hts⟩ (k_Row_put l dC dI cI cZ cF H.size wy wx wz (0 + 1) 2 (upd WX 0 (X 0)) (upd WY 0 (Y 0)) 0 (P 0) (Q 0) (by first | with_reducible assumption | omega) (by first | with_reducible assumption | omega)) (csV_41 hts rfl rfl ⟨Nat.le_of_ble_eq_true rfl, Nat.le_of_ble_eq_true rfl⟩) (zPV2 (q0 := 0) (ci := 6) hPc hDc hK hXN rfl rfl) rfl rfl hl.1 rfl (lv_room (Nat.le_of_ble_eq_true rfl)) dX4_isWayFree_49 ⟨Nat.le_of_ble_eq_true rfl, Nat.le_of_ble_eq_true rfl⟩) hS hFc hFc rfl (fun t H locs ht hB hk1 hS => ?_)
  obtain ⟨hP1, hD1⟩ := hB
  rw [ht] at hP1
  obtain ⟨hP, hD⟩ := zn (W2 := [_, (oc6 wy (.ref wx) (.ref wz) (nI ((0 + 1) + 1)) 0), (oa wx cI 2 (upd (upd WX 0 (X 0)) (0 + 1) (P 0))), (oa wz cI 2 (upd (upd WY 0 (Y 0)) (0 + 1) (Q 0))), _, _, _, _, _, _, _, _, _]) hP hD hk1 hFc hP1 hD1 [1, 2, 3] zl_9 zl_9 [1, 2, 3] (by decide +kernel) rfl rfl rfl rfl rfl
  clear hk1 hPc hDc hFc hP1 hD1 ht
  obtain ⟨hP, hD⟩ : zPD (dC, dI) classes A [(oc3 lw (.ref dr) (.ref tg) (.ref wy) (.ref br) (.ref bo) (.ref aa)), (oc6 wy (.ref wx) (.ref wz) (nI (2)) 0), (oa wx cI 2 (upd (upd WX 0 (X 0)) 1 (P 0))), (oa wz cI 2 (upd (upd WY 0 (Y 0)) 1 (Q 0))), (oc6 dr (.ref dx) (.ref dy) (nI nd) rd), (oa dx cI cd P), (oa dy cI cd Q), (oc6 r (.ref rx) (.ref ry) (nI n) rg), (oa rx cI cap X), (oa ry cI cap Y), (oc6 u (.ref ux) (.ref uy) (nI m2) rh), (oa ux cI cap2 U), (oa uy cI cap2 V)] H := ⟨hP, hD⟩
  refine lv_iconst (v := 0) hx hb dX4_isWayFree_52 rfl ?_
  refine lv_istore_n (lv' := [(3, .int 0), (0, .ref lw), (1, .ref r), (2, .ref u)]) hx hb dX4_isWayFree_53 rfl hl (Nat.le_of_ble_eq_true rfl) rfl (fun ls hl => ?_)
  have hl_54 : ∀ (n9 : Nat) (k : Nat) (H : Heap) (locs : List Loc) (ls : Array Slot), prt m2 rh - k < n9 → (k ≤ prt m2 rh) → (∀ j, j < k → wyF2 (X 0).toInt (Y 0).toInt (P 0).toInt (Q 0).toInt m2 U V j) → va_P (dC, dI) classes [(oc3 lw (.ref dr) (.ref tg) (.ref wy) (.ref br) (.ref bo) (.ref aa)), (oc6 wy (.ref wx) (.ref wz) (nI (2)) 0), (oa wx cI 2 (upd (upd WX 0 (X 0)) 1 (P 0))), (oa wz cI 2 (upd (upd WY 0 (Y 0)) 1 (Q 0))), (oc6 dr (.ref dx) (.ref dy) (nI nd) rd), (oa dx cI cd P), (oa dy cI cd Q), (oc6 r (.ref rx) (.ref ry) (nI n) rg), (oa rx cI cap X), (oa ry cI cap Y), (oc6 u (.ref ux) (.ref uy) (nI m2) rh), (oa ux cI cap2 U), (oa uy cI cap2 V)] H → va_D A [(oc3 lw (.ref dr) (.ref tg) (.ref wy) (.ref br) (.ref bo) (.ref aa)), (oc6 wy (.ref wx) (.ref wz) (nI (2)) 0), (oa wx cI 2 (upd (upd WX 0 (X 0)) 1 (P 0))), (oa wz cI 2 (upd (upd WY 0 (Y 0)) 1 (Q 0))), (oc6 dr (.ref dx) (.ref dy) (nI nd) rd), (oa dx cI cd P), (oa dy cI cd Q), (oc6 r (.ref rx) (.ref ry) (nI n) rg), (oa rx cI cap X), (oa ry cI cap Y), (oc6 u (.ref ux) (.ref uy) (nI m2) rh), (oa ux cI cap2 U), (oa uy cI cap2 V)] → va_S A s.heap H locs → lv_has ls 5 [(3, .int (nI k)), (0, .ref lw), (1, .ref r), (2, .ref u)] → W p l e ({ frames := 2, cells := 0, slots := 0, locals := 48 } : Room) s m ([.ref lw, .ref r, .ref u] : List Value).toArray below meth c H locs 0 0 Q9 (F0 m 54 ls []) := by
    intro n9
    induction n9 with
    | zero => intro k H locs ls hm; exact absurd hm (Nat.not_lt_zero _)
    | succ n9 ih_54 =>
      intro k H locs ls hm hk hall hP hD hS hl
      refine lv_iload_n hx hb dX4_isWayFree_54 rfl (lv_at hl 0 rfl) ?_
      refine lv_aload_n hx hb dX4_isWayFree_55 rfl (lv_at hl 3 rfl) ?_
      obtain ⟨hPc, hDc, hFc, hI1⟩ := zi_sub (wc := [_, _, _]) hP hD hS hA [10, 11, 12] rfl rfl
      refine zcall (st1 := [.int (nI (prt m2 rh)), .int (nI k)]) (va_runV (As := []) (rest := [.int (nI k)]) ⟨hx, hb, hml, hown, hts⟩ (k_Row_parts l dC dI cI cZ cF H.size u ux uy m2 cap2 U V rh (by first | with_reducible assumption | omega) (by first | with_reducible assumption | omega)) (csV_42 hts rfl rfl ⟨Nat.le_of_ble_eq_true rfl, Nat.le_of_ble_eq_true rfl⟩) (zPV2 (q0 := 0) (ci := 6) hPc hDc hK hXN rfl rfl) rfl rfl hl.1 rfl (lv_room (Nat.le_of_ble_eq_true rfl)) dX4_isWayFree_56 ⟨Nat.le_of_ble_eq_true rfl, Nat.le_of_ble_eq_true rfl⟩) hS hFc hFc rfl (fun t H locs ht hB hk1 hS => ?_)
      obtain ⟨hP1, hD1⟩ := hB
      rw [ht] at hP1
      replace hP := z0 hP hD hk1 hP1 hI1
      clear hk1 hPc hDc hFc hP1 hD1 ht hI1
      have b9_6 : zlt (k) := show k < 2147483648 by omega
      have b9_7 : zlt ((prt m2 rh)) := show (prt m2 rh) < 2147483648 by omega
      refine lv_icmp_ge (tgt := 153) hx hb dX4_isWayFree_59 rfl (fun c_5 => ?_) (fun c_5 => ?_)
      · have c_5 : ((prt m2 rh : Nat) : Int) ≤ ((k : Nat) : Int) := zc_le (nI_toInt b9_7) (nI_toInt b9_6) c_5
        refine lv_iconst (v := 1) hx hb dX4_isWayFree_153 rfl ?_
        obtain ⟨hP9, hD9⟩ := zu_sub (wc := [_, _, _, _, _, _, _, _, _, _, _, _, _]) hP hD [true, true, true, true, true, true, true, true, true, true, true, true, true] rfl rfl
        rw [hQ9]
        exact W.zret (ty := .boolean) (v := 1) hx hb hr (rfl) (fun t ht hW => ⟨⟨congrArg (fun z => Outcome.returned (some (Value.int z))) (show (1 : Int32) = pI (∀ k, k < prt m2 rh → wyF2 (X 0).toInt (Y 0).toInt (P 0).toInt (Q 0).toInt m2 U V k) from (zp_t (fun j hj => hall j (by omega))).symm), by rw [ht]; exact hP9, hD9⟩, hS.F ht⟩) hS.2.2 dX4_isWayFree_154
      · have c_5 : ((k : Nat) : Int) < ((prt m2 rh : Nat) : Int) := zc_nle (nI_toInt b9_7) (nI_toInt b9_6) c_5
        have hkm : k < m2 := (by omega)
        have hnk := nxt_lt (n := m2) (i := k) (by omega)
        refine lv_aload_n hx hb dX4_isWayFree_62 rfl (lv_at hl 1 rfl) ?_
        refine va_get (D := (dC, dI)) (ci := 3) (v := .ref wy) (C := RX4) (T := TX4) (N := 6) hx hb hts inX4 hown hK hP 0 rfl rfl 2 (Nat.le_of_ble_eq_true rfl) (hts _ mw_222) (fun _ h9 => h9) rfl dX4_isWayFree_63 ?_
        refine lv_iconst (v := 0) hx hb dX4_isWayFree_66 rfl ?_
        refine lv_aload_n hx hb dX4_isWayFree_67 rfl (lv_at hl 3 rfl) ?_
        refine lv_iload_n hx hb dX4_isWayFree_68 rfl (lv_at hl 0 rfl) ?_
        obtain ⟨hPc, hDc, hFc⟩ := zo_sub (wc := [_, _, _, _, _, _]) hP hD hS hA [1, 2, 3, 10, 11, 12] (by decide +kernel) rfl
        refine zcall (st1 := [.int (pI (eMt 2 (upd (upd WX 0 (X 0)) 1 (P 0)) (upd (upd WY 0 (Y 0)) 1 (Q 0)) 0 m2 U V k))]) (va_runV (As := [.int 0, .ref u, .int (nI k)]) (rest := []) ⟨hx, hb, hml, hown, hts⟩ (k_Row_partsMeet l dC dI cI cZ cF H.size wy wx wz 2 2 (upd (upd WX 0 (X 0)) 1 (P 0)) (upd (upd WY 0 (Y 0)) 1 (Q 0)) 0 u ux uy m2 cap2 U V rh 0 k (by first | with_reducible assumption | omega) (by first | with_reducible assumption | omega) (hpw) (by first | with_reducible assumption | omega) (by first | with_reducible assumption | omega) (by first | with_reducible assumption | assumption) (by first | with_reducible assumption | omega) (by first | with_reducible assumption | omega)) (csV_43 hts rfl rfl ⟨Nat.le_of_ble_eq_true rfl, Nat.le_of_ble_eq_true rfl⟩) (zPV2 (q0 := 0) (ci := 6) hPc hDc hK hXN rfl rfl) rfl rfl hl.1 rfl (lv_room (Nat.le_of_ble_eq_true rfl)) dX4_isWayFree_69 ⟨Nat.le_of_ble_eq_true rfl, Nat.le_of_ble_eq_true rfl⟩) hS hFc hFc rfl (fun t H locs ht hB hk1 hS => ?_)
        obtain ⟨hP1, hD1⟩ := hB
        rw [ht] at hP1
        obtain ⟨hP, hD⟩ := zn (W2 := [_, (oc6 wy (.ref wx) (.ref wz) (nI 2) 0), _, _, _, _, _, _, _, _, _, _, _]) hP hD hk1 hFc hP1 hD1 [1, 2, 3, 10, 11, 12] zl_10 zl_11 [1, 2, 3, 10, 11, 12] (by decide +kernel) rfl rfl rfl rfl rfl
        clear hk1 hPc hDc hFc hP1 hD1 ht
        refine zz_i (v := pI (mtC (X 0).toInt (Y 0).toInt (P 0).toInt (Q 0).toInt (U k).toInt (V k).toInt (U (nxt m2 k)).toInt (V (nxt m2 k)).toInt)) (rfl) ?_
        refine lv_if_ne (tgt := 78) hx hb dX4_isWayFree_72 rfl (fun c_8 => ?_) (fun c_8 => ?_)
        · have c_8 : mtC (X 0).toInt (Y 0).toInt (P 0).toInt (Q 0).toInt (U k).toInt (V k).toInt (U (nxt m2 k)).toInt (V (nxt m2 k)).toInt := zp_1 c_8
          refine lv_aload_n hx hb dX4_isWayFree_78 rfl (lv_at hl 3 rfl) ?_
          refine lv_iload_n hx hb dX4_isWayFree_79 rfl (lv_at hl 0 rfl) ?_
          obtain ⟨hPc, hDc, hFc, hI1⟩ := zi_sub (wc := [_, _, _]) hP hD hS hA [10, 11, 12] rfl rfl
          refine zcall (st1 := [.int (nI (nxt m2 k))]) (va_runV (As := [.int (nI k)]) (rest := []) ⟨hx, hb, hml, hown, hts⟩ (k_Row_next l dC dI cI cZ cF H.size u ux uy m2 cap2 U V rh k (by first | with_reducible assumption | omega) (by first | with_reducible assumption | omega) (by first | with_reducible assumption | omega)) (csV_44 hts rfl rfl ⟨Nat.le_of_ble_eq_true rfl, Nat.le_of_ble_eq_true rfl⟩) (zPV2 (q0 := 0) (ci := 6) hPc hDc hK hXN rfl rfl) rfl rfl hl.1 rfl (lv_room (Nat.le_of_ble_eq_true rfl)) dX4_isWayFree_80 ⟨Nat.le_of_ble_eq_true rfl, Nat.le_of_ble_eq_true rfl⟩) hS hFc hFc rfl (fun t H locs ht hB hk1 hS => ?_)
          obtain ⟨hP1, hD1⟩ := hB
          rw [ht] at hP1
          replace hP := z0 hP hD hk1 hP1 hI1
          clear hk1 hPc hDc hFc hP1 hD1 ht hI1
          refine lv_istore (lv' := [(4, .int (nI (nxt m2 k))), (3, .int (nI k)), (0, .ref lw), (1, .ref r), (2, .ref u)]) hx hb dX4_isWayFree_83 hl (Nat.le_of_ble_eq_true rfl) rfl (fun ls hl => ?_)
          refine lv_aload_n hx hb dX4_isWayFree_85 rfl (lv_at hl 4 rfl) ?_
          refine lv_iload_n hx hb dX4_isWayFree_86 rfl (lv_at hl 1 rfl) ?_
          refine lv_aload_n hx hb dX4_isWayFree_87 rfl (lv_at hl 3 rfl) ?_
          refine va_get (D := (dC, dI)) (ci := 6) (v := .ref rx) (C := RX7) (T := TX7) (N := 4) hx hb hts inX7 hown hK hP 7 rfl rfl 0 (Nat.le_of_ble_eq_true rfl) (hts _ mw_163) (fun _ h9 => h9) rfl dX4_isWayFree_88 ?_
          refine lv_iconst (v := 0) hx hb dX4_isWayFree_91 rfl ?_
          refine z_iald hx hb hK hP 8 0 rfl rfl (e := 0) rfl b9_1 b9_2 dX4_isWayFree_92 ?_
          refine lv_aload_n hx hb dX4_isWayFree_93 rfl (lv_at hl 3 rfl) ?_
          refine va_get (D := (dC, dI)) (ci := 6) (v := .ref ry) (C := RX7) (T := TX7) (N := 4) hx hb hts inX7 hown hK hP 7 rfl rfl 1 (Nat.le_of_ble_eq_true rfl) (hts _ mw_170) (fun _ h9 => h9) rfl dX4_isWayFree_94 ?_
          refine lv_iconst (v := 0) hx hb dX4_isWayFree_97 rfl ?_
          refine z_iald hx hb hK hP 9 0 rfl rfl (e := 0) rfl b9_1 b9_2 dX4_isWayFree_98 ?_
          obtain ⟨hPc, hDc, hFc, hI1⟩ := zi_sub (wc := [_, _, _]) hP hD hS hA [10, 11, 12] rfl rfl
          refine zcall (st1 := [.int (pI (eOn m2 U V k (X 0).toInt (Y 0).toInt))]) (va_runV (As := [.int (nI k), .int (X 0), .int (Y 0)]) (rest := []) ⟨hx, hb, hml, hown, hts⟩ (k_Row_isOn l dC dI cI cZ cF H.size u ux uy m2 cap2 U V rh k (X 0) (Y 0) (by first | with_reducible assumption | omega) (by first | with_reducible assumption | omega) (hq) (by first | with_reducible assumption | omega) (h0x.1) (h0x.2)) (csV_45 hts rfl rfl ⟨Nat.le_of_ble_eq_true rfl, Nat.le_of_ble_eq_true rfl⟩) (zPV2 (q0 := 0) (ci := 6) hPc hDc hK hXN rfl rfl) rfl rfl hl.1 rfl (lv_room (Nat.le_of_ble_eq_true rfl)) dX4_isWayFree_99 ⟨Nat.le_of_ble_eq_true rfl, Nat.le_of_ble_eq_true rfl⟩) hS hFc hFc rfl (fun t H locs ht hB hk1 hS => ?_)
          obtain ⟨hP1, hD1⟩ := hB
          rw [ht] at hP1
          replace hP := z0 hP hD hk1 hP1 hI1
          clear hk1 hPc hDc hFc hP1 hD1 ht hI1
          refine zz_i (v := pI (onS (U k).toInt (V k).toInt (U (nxt m2 k)).toInt (V (nxt m2 k)).toInt (X 0).toInt (Y 0).toInt)) (rfl) ?_
          refine lv_if_eq (tgt := 145) hx hb dX4_isWayFree_102 rfl (fun c_9 => ?_) (fun c_9 => ?_)
          · have c_9 : ¬ (onS (U k).toInt (V k).toInt (U (nxt m2 k)).toInt (V (nxt m2 k)).toInt (X 0).toInt (Y 0).toInt) := zp_0 c_9
            refine lv_iconst (v := 0) hx hb dX4_isWayFree_145 rfl ?_
            obtain ⟨hP9, hD9⟩ := zu_sub (wc := [_, _, _, _, _, _, _, _, _, _, _, _, _]) hP hD [true, true, true, true, true, true, true, true, true, true, true, true, true] rfl rfl
            rw [hQ9]
            exact W.zret (ty := .boolean) (v := 0) hx hb hr (rfl) (fun t ht hW => ⟨⟨congrArg (fun z => Outcome.returned (some (Value.int z))) (show (0 : Int32) = pI (∀ k, k < prt m2 rh → wyF2 (X 0).toInt (Y 0).toInt (P 0).toInt (Q 0).toInt m2 U V k) from (zp_f (fun h => by have h9 := h k (by omega) (by first | with_reducible assumption | assumption); first | exact absurd h9.1 (by first | with_reducible assumption | assumption) | exact absurd (by first | with_reducible assumption | assumption) h9.2.1 | exact absurd (by first | with_reducible assumption | assumption) h9.2.2)).symm), by rw [ht]; exact hP9, hD9⟩, hS.F ht⟩) hS.2.2 dX4_isWayFree_146
          · have c_9 : onS (U k).toInt (V k).toInt (U (nxt m2 k)).toInt (V (nxt m2 k)).toInt (X 0).toInt (Y 0).toInt := zp_1 c_9
            refine lv_aload_n hx hb dX4_isWayFree_105 rfl (lv_at hl 2 rfl) ?_
            refine lv_aload_n hx hb dX4_isWayFree_106 rfl (lv_at hl 4 rfl) ?_
            refine va_get (D := (dC, dI)) (ci := 6) (v := .ref ux) (C := RX7) (T := TX7) (N := 4) hx hb hts inX7 hown hK hP 10 rfl rfl 0 (Nat.le_of_ble_eq_true rfl) (hts _ mw_163) (fun _ h9 => h9) rfl dX4_isWayFree_107 ?_
            refine lv_iload_n hx hb dX4_isWayFree_110 rfl (lv_at hl 1 rfl) ?_
            have b9_10 : k < cap2 := by omega
            have b9_11 : zlt (cap2) := show cap2 < 2147483648 by omega
            refine z_iald hx hb hK hP 11 0 rfl rfl (e := k) rfl b9_10 b9_11 dX4_isWayFree_111 ?_
            refine lv_aload_n hx hb dX4_isWayFree_112 rfl (lv_at hl 4 rfl) ?_
            refine va_get (D := (dC, dI)) (ci := 6) (v := .ref uy) (C := RX7) (T := TX7) (N := 4) hx hb hts inX7 hown hK hP 10 rfl rfl 1 (Nat.le_of_ble_eq_true rfl) (hts _ mw_170) (fun _ h9 => h9) rfl dX4_isWayFree_113 ?_
            refine lv_iload_n hx hb dX4_isWayFree_116 rfl (lv_at hl 1 rfl) ?_
            refine z_iald hx hb hK hP 12 0 rfl rfl (e := k) rfl b9_10 b9_11 dX4_isWayFree_117 ?_
            obtain ⟨hPc, hDc, hFc, hI1⟩ := zi_sub (wc := [_, _, _, _]) hP hD hS hA [0, 1, 2, 3] (by decide +kernel) rfl
            refine zcall (st1 := [.int (pI (ldT ((upd (upd WX 0 (X 0)) 1 (P 0)) 0).toInt ((upd (upd WY 0 (Y 0)) 1 (Q 0)) 0).toInt ((upd (upd WX 0 (X 0)) 1 (P 0)) 1).toInt ((upd (upd WY 0 (Y 0)) 1 (Q 0)) 1).toInt (U k).toInt (V k).toInt))]) (va_runV (As := [.int (U k), .int (V k)]) (rest := []) ⟨hx, hb, hml, hown, hts⟩ (k_Law_leadsTo l dC dI cI cZ cF H.size lw dr tg wy br bo aa wx wz (upd (upd WX 0 (X 0)) 1 (P 0)) (upd (upd WY 0 (Y 0)) 1 (Q 0)) 0 (U k) (V k) (hpw) ((hq k hkm).1) ((hq k hkm).2)) (csV_46 hts rfl rfl ⟨Nat.le_of_ble_eq_true rfl, Nat.le_of_ble_eq_true rfl⟩) (zPV2 (q0 := 0) (ci := 3) hPc hDc hK hXN rfl rfl) rfl rfl hl.1 rfl (lv_room (Nat.le_of_ble_eq_true rfl)) dX4_isWayFree_118 ⟨Nat.le_of_ble_eq_true rfl, Nat.le_of_ble_eq_true rfl⟩) hS hFc hFc rfl (fun t H locs ht hB hk1 hS => ?_)
            obtain ⟨hP1, hD1⟩ := hB
            rw [ht] at hP1
            replace hP := z0 hP hD hk1 hP1 hI1
            clear hk1 hPc hDc hFc hP1 hD1 ht hI1
            refine zz_i (v := pI (ldT (X 0).toInt (Y 0).toInt (P 0).toInt (Q 0).toInt (U k).toInt (V k).toInt)) (rfl) ?_
            refine lv_if_ne (tgt := 145) hx hb dX4_isWayFree_121 rfl (fun c_12 => ?_) (fun c_12 => ?_)
            · have c_12 : ldT (X 0).toInt (Y 0).toInt (P 0).toInt (Q 0).toInt (U k).toInt (V k).toInt := zp_1 c_12
              refine lv_iconst (v := 0) hx hb dX4_isWayFree_145 rfl ?_
              obtain ⟨hP9, hD9⟩ := zu_sub (wc := [_, _, _, _, _, _, _, _, _, _, _, _, _]) hP hD [true, true, true, true, true, true, true, true, true, true, true, true, true] rfl rfl
              rw [hQ9]
              exact W.zret (ty := .boolean) (v := 0) hx hb hr (rfl) (fun t ht hW => ⟨⟨congrArg (fun z => Outcome.returned (some (Value.int z))) (show (0 : Int32) = pI (∀ k, k < prt m2 rh → wyF2 (X 0).toInt (Y 0).toInt (P 0).toInt (Q 0).toInt m2 U V k) from (zp_f (fun h => by have h9 := h k (by omega) (by first | with_reducible assumption | assumption); first | exact absurd h9.1 (by first | with_reducible assumption | assumption) | exact absurd (by first | with_reducible assumption | assumption) h9.2.1 | exact absurd (by first | with_reducible assumption | assumption) h9.2.2)).symm), by rw [ht]; exact hP9, hD9⟩, hS.F ht⟩) hS.2.2 dX4_isWayFree_146
            · have c_12 : ¬ (ldT (X 0).toInt (Y 0).toInt (P 0).toInt (Q 0).toInt (U k).toInt (V k).toInt) := zp_0 c_12
              refine lv_aload_n hx hb dX4_isWayFree_124 rfl (lv_at hl 2 rfl) ?_
              refine lv_aload_n hx hb dX4_isWayFree_125 rfl (lv_at hl 4 rfl) ?_
              refine va_get (D := (dC, dI)) (ci := 6) (v := .ref ux) (C := RX7) (T := TX7) (N := 4) hx hb hts inX7 hown hK hP 10 rfl rfl 0 (Nat.le_of_ble_eq_true rfl) (hts _ mw_163) (fun _ h9 => h9) rfl dX4_isWayFree_126 ?_
              refine lv_iload hx hb dX4_isWayFree_129 (lv_at hl 0 rfl) ?_
              have b9_13 : nxt m2 k < cap2 := by omega
              refine z_iald hx hb hK hP 11 0 rfl rfl (e := nxt m2 k) rfl b9_13 b9_11 dX4_isWayFree_131 ?_
              refine lv_aload_n hx hb dX4_isWayFree_132 rfl (lv_at hl 4 rfl) ?_
              refine va_get (D := (dC, dI)) (ci := 6) (v := .ref uy) (C := RX7) (T := TX7) (N := 4) hx hb hts inX7 hown hK hP 10 rfl rfl 1 (Nat.le_of_ble_eq_true rfl) (hts _ mw_170) (fun _ h9 => h9) rfl dX4_isWayFree_133 ?_
              refine lv_iload hx hb dX4_isWayFree_136 (lv_at hl 0 rfl) ?_
              refine z_iald hx hb hK hP 12 0 rfl rfl (e := nxt m2 k) rfl b9_13 b9_11 dX4_isWayFree_138 ?_
              obtain ⟨hPc, hDc, hFc, hI1⟩ := zi_sub (wc := [_, _, _, _]) hP hD hS hA [0, 1, 2, 3] (by decide +kernel) rfl
              refine zcall (st1 := [.int (pI (ldT ((upd (upd WX 0 (X 0)) 1 (P 0)) 0).toInt ((upd (upd WY 0 (Y 0)) 1 (Q 0)) 0).toInt ((upd (upd WX 0 (X 0)) 1 (P 0)) 1).toInt ((upd (upd WY 0 (Y 0)) 1 (Q 0)) 1).toInt (U (nxt m2 k)).toInt (V (nxt m2 k)).toInt))]) (va_runV (As := [.int (U (nxt m2 k)), .int (V (nxt m2 k))]) (rest := []) ⟨hx, hb, hml, hown, hts⟩ (k_Law_leadsTo l dC dI cI cZ cF H.size lw dr tg wy br bo aa wx wz (upd (upd WX 0 (X 0)) 1 (P 0)) (upd (upd WY 0 (Y 0)) 1 (Q 0)) 0 (U (nxt m2 k)) (V (nxt m2 k)) (hpw) ((hq _ hnk).1) ((hq _ hnk).2)) (csV_46 hts rfl rfl ⟨Nat.le_of_ble_eq_true rfl, Nat.le_of_ble_eq_true rfl⟩) (zPV2 (q0 := 0) (ci := 3) hPc hDc hK hXN rfl rfl) rfl rfl hl.1 rfl (lv_room (Nat.le_of_ble_eq_true rfl)) dX4_isWayFree_139 ⟨Nat.le_of_ble_eq_true rfl, Nat.le_of_ble_eq_true rfl⟩) hS hFc hFc rfl (fun t H locs ht hB hk1 hS => ?_)
              obtain ⟨hP1, hD1⟩ := hB
              rw [ht] at hP1
              replace hP := z0 hP hD hk1 hP1 hI1
              clear hk1 hPc hDc hFc hP1 hD1 ht hI1
              refine zz_i (v := pI (ldT (X 0).toInt (Y 0).toInt (P 0).toInt (Q 0).toInt (U (nxt m2 k)).toInt (V (nxt m2 k)).toInt)) (rfl) ?_
              refine lv_if_eq (tgt := 147) hx hb dX4_isWayFree_142 rfl (fun c_14 => ?_) (fun c_14 => ?_)
              · have c_14 : ¬ (ldT (X 0).toInt (Y 0).toInt (P 0).toInt (Q 0).toInt (U (nxt m2 k)).toInt (V (nxt m2 k)).toInt) := zp_0 c_14
                refine lv_iinc (v := nI (k + 1)) (lv' := [(3, .int (nI (k + 1))), (4, .int (nI (nxt m2 k))), (0, .ref lw), (1, .ref r), (2, .ref u)]) hx hb dX4_isWayFree_147 hl (k := 1) rfl (nI_add k 1) (Nat.le_of_ble_eq_true rfl) rfl (fun ls hl => ?_)
                refine lv_goto (tgt := 54) hx hb dX4_isWayFree_150 rfl ?_
                exact ih_54 (k + 1) H locs ls (by first | with_reducible assumption | omega) (by first | with_reducible assumption | omega) (by intro j hj; rcases Nat.lt_or_ge j k with h | h; exact hall j h; rw [show j = k by omega]; unfold wyF2; first | exact fun h => absurd h (by first | with_reducible assumption | assumption) | exact fun _ => ⟨by assumption, by assumption, by assumption⟩) hP hD hS (lv_sub hl [0, 2, 3, 4] rfl)
              · have c_14 : ldT (X 0).toInt (Y 0).toInt (P 0).toInt (Q 0).toInt (U (nxt m2 k)).toInt (V (nxt m2 k)).toInt := zp_1 c_14
                refine lv_iconst (v := 0) hx hb dX4_isWayFree_145 rfl ?_
                obtain ⟨hP9, hD9⟩ := zu_sub (wc := [_, _, _, _, _, _, _, _, _, _, _, _, _]) hP hD [true, true, true, true, true, true, true, true, true, true, true, true, true] rfl rfl
                rw [hQ9]
                exact W.zret (ty := .boolean) (v := 0) hx hb hr (rfl) (fun t ht hW => ⟨⟨congrArg (fun z => Outcome.returned (some (Value.int z))) (show (0 : Int32) = pI (∀ k, k < prt m2 rh → wyF2 (X 0).toInt (Y 0).toInt (P 0).toInt (Q 0).toInt m2 U V k) from (zp_f (fun h => by have h9 := h k (by omega) (by first | with_reducible assumption | assumption); first | exact absurd h9.1 (by first | with_reducible assumption | assumption) | exact absurd (by first | with_reducible assumption | assumption) h9.2.1 | exact absurd (by first | with_reducible assumption | assumption) h9.2.2)).symm), by rw [ht]; exact hP9, hD9⟩, hS.F ht⟩) hS.2.2 dX4_isWayFree_146
        · have c_8 : ¬ (mtC (X 0).toInt (Y 0).toInt (P 0).toInt (Q 0).toInt (U k).toInt (V k).toInt (U (nxt m2 k)).toInt (V (nxt m2 k)).toInt) := zp_0 c_8
          refine lv_goto (tgt := 147) hx hb dX4_isWayFree_75 rfl ?_
          refine lv_iinc (v := nI (k + 1)) (lv' := [(3, .int (nI (k + 1))), (0, .ref lw), (1, .ref r), (2, .ref u)]) hx hb dX4_isWayFree_147 hl (k := 0) rfl (nI_add k 1) (Nat.le_of_ble_eq_true rfl) rfl (fun ls hl => ?_)
          refine lv_goto (tgt := 54) hx hb dX4_isWayFree_150 rfl ?_
          exact ih_54 (k + 1) H locs ls (by first | with_reducible assumption | omega) (by first | with_reducible assumption | omega) (by intro j hj; rcases Nat.lt_or_ge j k with h | h; exact hall j h; rw [show j = k by omega]; unfold wyF2; first | exact fun h => absurd h (by first | with_reducible assumption | assumption) | exact fun _ => ⟨by assumption, by assumption, by assumption⟩) hP hD hS (lv_sub hl [0, 1, 2, 3] rfl)
  exact hl_54 _ 0 H locs ls (Nat.lt_succ_self _) (by first | with_reducible assumption | omega) (by intro j hj; omega) hP hD hS (lv_sub hl [0, 1, 2, 3] rfl)
set_option maxHeartbeats 4000000 in
set_option maxRecDepth 100000 in
theorem k_Law_setTriangle_ooo (l : Launch) (dC : Nat → ClassId) (dI : Nat → Nat → Nat) (cI cZ cF : ClassId) (sz : Nat) (lw : Nat) (dr : Nat) (tg : Nat) (wy : Nat) (br : Nat) (bo : Nat) (aa : Nat) (tx : Nat) (ty : Nat) (nt : Nat) (TX : Nat → Int32) (TY : Nat → Int32) (rt : Int32) (r : Nat) (rx : Nat) (ry : Nat) (n : Nat) (cap : Nat) (X : Nat → Int32) (Y : Nat → Int32) (rg : Int32) (i0 : Nat) (i1 : Nat) (i2 : Nat) (hn : n ≤ cap) (hcap : cap ≤ 1000) (hi0 : i0 < n) (hi1 : i1 < n) (hi2 : i2 < n) : zM l yX4_setTriangle cX4_setTriangle 7 none ({ frames := 1, cells := 0, slots := 0, locals := 22 } : Room) [.ref lw, .ref r, .int (nI i0), .ref r, .int (nI i1), .ref r, .int (nI i2)] (dC, dI) (zTy cI cZ cF) [(oc3 lw (.ref dr) (.ref tg) (.ref wy) (.ref br) (.ref bo) (.ref aa)), (oc6 tg (.ref tx) (.ref ty) (nI nt) rt), (oa tx cI 3 TX), (oa ty cI 3 TY), (oc6 r (.ref rx) (.ref ry) (nI n) rg), (oa rx cI cap X), (oa ry cI cap Y)] sz none (fun A t => zPD (dC, dI) classes A [(oc3 lw (.ref dr) (.ref tg) (.ref wy) (.ref br) (.ref bo) (.ref aa)), (oc6 tg (.ref tx) (.ref ty) (nI 3) 1), (oa tx cI 3 (upd (upd (upd TX 0 (X i0)) 1 (X i1)) 2 (X i2))), (oa ty cI 3 (upd (upd (upd TY 0 (Y i0)) 1 (Y i1)) 2 (Y i2))), (oc6 r (.ref rx) (.ref ry) (nI n) rg), (oa rx cI cap X), (oa ry cI cap Y)] t.heap) 0 0 := by
  refine zIn (own := "ScaleShop$Law") (loc := [(0, .ref lw), (1, .ref r), (2, .int (nI i0)), (3, .ref r), (4, .int (nI i1)), (5, .ref r), (6, .int (nI i2))]) rfl rfl rfl rfl (fun p e s m below meth c hx hb hr hts hown hlocks hml hnm9 A hA hS hP hD hK hXN Q9 hQ9 ls hl => ?_)
  refine lv_aload_n hx hb dX4_setTriangle_0 rfl (lv_at hl 0 rfl) ?_
  refine va_get (D := (dC, dI)) (ci := 3) (v := .ref tg) (C := RX4) (T := TX4) (N := 6) hx hb hts inX4 hown hK hP 0 rfl rfl 1 (Nat.le_of_ble_eq_true rfl) (hts _ mw_221) (fun _ h9 => h9) rfl dX4_setTriangle_1 ?_
  refine lv_iconst (v := 1) hx hb dX4_setTriangle_4 rfl ?_
  obtain ⟨hPc, hDc, hFc⟩ := zo_sub (wc := [_, _, _]) hP hD hS hA [1, 2, 3] rfl rfl
  refine zcall (st1 := []) (va_runV (As := [.int 1]) (rest := []) ⟨hx, hb, hml, hown, hts⟩ (k_Row_clear l dC dI cI cZ cF s.heap.size tg tx ty nt 3 TX TY rt 1 (Or.inr rfl)) (csV_40 hts rfl rfl ⟨Nat.le_of_ble_eq_true rfl, Nat.le_of_ble_eq_true rfl⟩) (zPV2 (q0 := 0) (ci := 6) hPc hDc hK hXN rfl rfl) rfl rfl hl.1 rfl (lv_room (Nat.le_of_ble_eq_true rfl)) dX4_setTriangle_5 ⟨Nat.le_of_ble_eq_true rfl, Nat.le_of_ble_eq_true rfl⟩) hS hFc hFc rfl (fun t H locs ht hB hk1 hS => ?_)
  obtain ⟨hP1, hD1⟩ := hB
  rw [ht] at hP1
  obtain ⟨hP, hD⟩ := zn (W2 := [_, (oc6 tg (.ref tx) (.ref ty) (nI 0) 1), _, _, _, _, _]) hP hD hk1 hFc hP1 hD1 [1, 2, 3] [true, false, false, false, true, true, true] [true, false, false, false, true, true, true] [1, 2, 3] (by decide +kernel) rfl rfl rfl rfl rfl
  clear hk1 hPc hDc hFc hP1 hD1 ht
  refine lv_aload_n hx hb dX4_setTriangle_8 rfl (lv_at hl 0 rfl) ?_
  refine va_get (D := (dC, dI)) (ci := 3) (v := .ref tg) (C := RX4) (T := TX4) (N := 6) hx hb hts inX4 hown hK hP 0 rfl rfl 1 (Nat.le_of_ble_eq_true rfl) (hts _ mw_221) (fun _ h9 => h9) rfl dX4_setTriangle_9 ?_
  refine lv_aload_n hx hb dX4_setTriangle_12 rfl (lv_at hl 1 rfl) ?_
  refine va_get (D := (dC, dI)) (ci := 6) (v := .ref rx) (C := RX7) (T := TX7) (N := 4) hx hb hts inX7 hown hK hP 4 rfl rfl 0 (Nat.le_of_ble_eq_true rfl) (hts _ mw_163) (fun _ h9 => h9) rfl dX4_setTriangle_13 ?_
  refine lv_iload_n hx hb dX4_setTriangle_16 rfl (lv_at hl 2 rfl) ?_
  have b9_1 : i0 < cap := by omega
  have b9_2 : zlt (cap) := show cap < 2147483648 by omega
  refine z_iald hx hb hK hP 5 0 rfl rfl (e := i0) rfl b9_1 b9_2 dX4_setTriangle_17 ?_
  refine lv_aload_n hx hb dX4_setTriangle_18 rfl (lv_at hl 1 rfl) ?_
  refine va_get (D := (dC, dI)) (ci := 6) (v := .ref ry) (C := RX7) (T := TX7) (N := 4) hx hb hts inX7 hown hK hP 4 rfl rfl 1 (Nat.le_of_ble_eq_true rfl) (hts _ mw_170) (fun _ h9 => h9) rfl dX4_setTriangle_19 ?_
  refine lv_iload_n hx hb dX4_setTriangle_22 rfl (lv_at hl 2 rfl) ?_
  refine z_iald hx hb hK hP 6 0 rfl rfl (e := i0) rfl b9_1 b9_2 dX4_setTriangle_23 ?_
  obtain ⟨hPc, hDc, hFc⟩ := zo_sub (wc := [_, _, _]) hP hD hS hA [1, 2, 3] rfl rfl
  refine zcall (st1 := []) (va_runV (As := [.int (X i0), .int (Y i0)]) (rest := []) ⟨hx, hb, hml, hown, hts⟩ (k_Row_put l dC dI cI cZ cF H.size tg tx ty 0 3 TX TY 1 (X i0) (Y i0) (by first | with_reducible assumption | omega) (by first | with_reducible assumption | omega)) (csV_41 hts rfl rfl ⟨Nat.le_of_ble_eq_true rfl, Nat.le_of_ble_eq_true rfl⟩) (zPV2 (q0 := 0) (ci := 6) hPc hDc hK hXN rfl rfl) rfl rfl hl.1 rfl (lv_room (Nat.le_of_ble_eq_true rfl)) dX4_setTriangle_24 ⟨Nat.le_of_ble_eq_true rfl, Nat.le_of_ble_eq_true rfl⟩) hS hFc hFc rfl (fun t H locs ht hB hk1 hS => ?_)
  obtain ⟨hP1, hD1⟩ := hB
  rw [ht] at hP1
  obtain ⟨hP, hD⟩ := zn (W2 := [_, (oc6 tg (.ref tx) (.ref ty) (nI (0 + 1)) 1), (oa tx cI 3 (upd TX 0 (X i0))), (oa ty cI 3 (upd TY 0 (Y i0))), _, _, _]) hP hD hk1 hFc hP1 hD1 [1, 2, 3] [true, false, false, false, true, true, true] [true, false, false, false, true, true, true] [1, 2, 3] (by decide +kernel) rfl rfl rfl rfl rfl
  clear hk1 hPc hDc hFc hP1 hD1 ht
  refine lv_aload_n hx hb dX4_setTriangle_27 rfl (lv_at hl 0 rfl) ?_
  refine va_get (D := (dC, dI)) (ci := 3) (v := .ref tg) (C := RX4) (T := TX4) (N := 6) hx hb hts inX4 hown hK hP 0 rfl rfl 1 (Nat.le_of_ble_eq_true rfl) (hts _ mw_221) (fun _ h9 => h9) rfl dX4_setTriangle_28 ?_
  refine lv_aload_n hx hb dX4_setTriangle_31 rfl (lv_at hl 3 rfl) ?_
  refine va_get (D := (dC, dI)) (ci := 6) (v := .ref rx) (C := RX7) (T := TX7) (N := 4) hx hb hts inX7 hown hK hP 4 rfl rfl 0 (Nat.le_of_ble_eq_true rfl) (hts _ mw_163) (fun _ h9 => h9) rfl dX4_setTriangle_32 ?_
  refine lv_iload hx hb dX4_setTriangle_35 (lv_at hl 4 rfl) ?_
  have b9_3 : i1 < cap := by omega
  refine z_iald hx hb hK hP 5 0 rfl rfl (e := i1) rfl b9_3 b9_2 dX4_setTriangle_37 ?_
  refine lv_aload_n hx hb dX4_setTriangle_38 rfl (lv_at hl 3 rfl) ?_
  refine va_get (D := (dC, dI)) (ci := 6) (v := .ref ry) (C := RX7) (T := TX7) (N := 4) hx hb hts inX7 hown hK hP 4 rfl rfl 1 (Nat.le_of_ble_eq_true rfl) (hts _ mw_170) (fun _ h9 => h9) rfl dX4_setTriangle_39 ?_
  refine lv_iload hx hb dX4_setTriangle_42 (lv_at hl 4 rfl) ?_
  refine z_iald hx hb hK hP 6 0 rfl rfl (e := i1) rfl b9_3 b9_2 dX4_setTriangle_44 ?_
  obtain ⟨hPc, hDc, hFc⟩ := zo_sub (wc := [_, _, _]) hP hD hS hA [1, 2, 3] rfl rfl
  refine zcall (st1 := []) (va_runV (As := [.int (X i1), .int (Y i1)]) (rest := []) ⟨hx, hb, hml, hown, hts⟩ (k_Row_put l dC dI cI cZ cF H.size tg tx ty (0 + 1) 3 (upd TX 0 (X i0)) (upd TY 0 (Y i0)) 1 (X i1) (Y i1) (by first | with_reducible assumption | omega) (by first | with_reducible assumption | omega)) (csV_41 hts rfl rfl ⟨Nat.le_of_ble_eq_true rfl, Nat.le_of_ble_eq_true rfl⟩) (zPV2 (q0 := 0) (ci := 6) hPc hDc hK hXN rfl rfl) rfl rfl hl.1 rfl (lv_room (Nat.le_of_ble_eq_true rfl)) dX4_setTriangle_45 ⟨Nat.le_of_ble_eq_true rfl, Nat.le_of_ble_eq_true rfl⟩) hS hFc hFc rfl (fun t H locs ht hB hk1 hS => ?_)
  obtain ⟨hP1, hD1⟩ := hB
  rw [ht] at hP1
  obtain ⟨hP, hD⟩ := zn (W2 := [_, (oc6 tg (.ref tx) (.ref ty) (nI ((0 + 1) + 1)) 1), (oa tx cI 3 (upd (upd TX 0 (X i0)) (0 + 1) (X i1))), (oa ty cI 3 (upd (upd TY 0 (Y i0)) (0 + 1) (Y i1))), _, _, _]) hP hD hk1 hFc hP1 hD1 [1, 2, 3] [true, false, false, false, true, true, true] [true, false, false, false, true, true, true] [1, 2, 3] (by decide +kernel) rfl rfl rfl rfl rfl
  clear hk1 hPc hDc hFc hP1 hD1 ht
  refine lv_aload_n hx hb dX4_setTriangle_48 rfl (lv_at hl 0 rfl) ?_
  refine va_get (D := (dC, dI)) (ci := 3) (v := .ref tg) (C := RX4) (T := TX4) (N := 6) hx hb hts inX4 hown hK hP 0 rfl rfl 1 (Nat.le_of_ble_eq_true rfl) (hts _ mw_221) (fun _ h9 => h9) rfl dX4_setTriangle_49 ?_
  refine lv_aload hx hb dX4_setTriangle_52 (lv_at hl 5 rfl) ?_
  refine va_get (D := (dC, dI)) (ci := 6) (v := .ref rx) (C := RX7) (T := TX7) (N := 4) hx hb hts inX7 hown hK hP 4 rfl rfl 0 (Nat.le_of_ble_eq_true rfl) (hts _ mw_163) (fun _ h9 => h9) rfl dX4_setTriangle_54 ?_
  refine lv_iload hx hb dX4_setTriangle_57 (lv_at hl 6 rfl) ?_
  have b9_4 : i2 < cap := by omega
  refine z_iald hx hb hK hP 5 0 rfl rfl (e := i2) rfl b9_4 b9_2 dX4_setTriangle_59 ?_
  refine lv_aload hx hb dX4_setTriangle_60 (lv_at hl 5 rfl) ?_
  refine va_get (D := (dC, dI)) (ci := 6) (v := .ref ry) (C := RX7) (T := TX7) (N := 4) hx hb hts inX7 hown hK hP 4 rfl rfl 1 (Nat.le_of_ble_eq_true rfl) (hts _ mw_170) (fun _ h9 => h9) rfl dX4_setTriangle_62 ?_
  refine lv_iload hx hb dX4_setTriangle_65 (lv_at hl 6 rfl) ?_
  refine z_iald hx hb hK hP 6 0 rfl rfl (e := i2) rfl b9_4 b9_2 dX4_setTriangle_67 ?_
  obtain ⟨hPc, hDc, hFc⟩ := zo_sub (wc := [_, _, _]) hP hD hS hA [1, 2, 3] rfl rfl
  refine zcall (st1 := []) (va_runV (As := [.int (X i2), .int (Y i2)]) (rest := []) ⟨hx, hb, hml, hown, hts⟩ (k_Row_put l dC dI cI cZ cF H.size tg tx ty ((0 + 1) + 1) 3 (upd (upd TX 0 (X i0)) (0 + 1) (X i1)) (upd (upd TY 0 (Y i0)) (0 + 1) (Y i1)) 1 (X i2) (Y i2) (by first | with_reducible assumption | omega) (by first | with_reducible assumption | omega)) (csV_41 hts rfl rfl ⟨Nat.le_of_ble_eq_true rfl, Nat.le_of_ble_eq_true rfl⟩) (zPV2 (q0 := 0) (ci := 6) hPc hDc hK hXN rfl rfl) rfl rfl hl.1 rfl (lv_room (Nat.le_of_ble_eq_true rfl)) dX4_setTriangle_68 ⟨Nat.le_of_ble_eq_true rfl, Nat.le_of_ble_eq_true rfl⟩) hS hFc hFc rfl (fun t H locs ht hB hk1 hS => ?_)
  obtain ⟨hP1, hD1⟩ := hB
  rw [ht] at hP1
  obtain ⟨hP, hD⟩ := zn (W2 := [_, (oc6 tg (.ref tx) (.ref ty) (nI (((0 + 1) + 1) + 1)) 1), (oa tx cI 3 (upd (upd (upd TX 0 (X i0)) (0 + 1) (X i1)) ((0 + 1) + 1) (X i2))), (oa ty cI 3 (upd (upd (upd TY 0 (Y i0)) (0 + 1) (Y i1)) ((0 + 1) + 1) (Y i2))), _, _, _]) hP hD hk1 hFc hP1 hD1 [1, 2, 3] [true, false, false, false, true, true, true] [true, false, false, false, true, true, true] [1, 2, 3] (by decide +kernel) rfl rfl rfl rfl rfl
  clear hk1 hPc hDc hFc hP1 hD1 ht
  obtain ⟨hP9, hD9⟩ := zu_sub (wc := [(oc3 lw (.ref dr) (.ref tg) (.ref wy) (.ref br) (.ref bo) (.ref aa)), (oc6 tg (.ref tx) (.ref ty) (nI (((0 + 1) + 1) + 1)) 1), (oa tx cI 3 (upd (upd (upd TX 0 (X i0)) (0 + 1) (X i1)) ((0 + 1) + 1) (X i2))), (oa ty cI 3 (upd (upd (upd TY 0 (Y i0)) (0 + 1) (Y i1)) ((0 + 1) + 1) (Y i2))), (oc6 r (.ref rx) (.ref ry) (nI n) rg), (oa rx cI cap X), (oa ry cI cap Y)]) hP hD [true, true, true, true, true, true, true] rfl rfl
  have hE9 : ([(oc3 lw (.ref dr) (.ref tg) (.ref wy) (.ref br) (.ref bo) (.ref aa)), (oc6 tg (.ref tx) (.ref ty) (nI (((0 + 1) + 1) + 1)) 1), (oa tx cI 3 (upd (upd (upd TX 0 (X i0)) (0 + 1) (X i1)) ((0 + 1) + 1) (X i2))), (oa ty cI 3 (upd (upd (upd TY 0 (Y i0)) (0 + 1) (Y i1)) ((0 + 1) + 1) (Y i2))), (oc6 r (.ref rx) (.ref ry) (nI n) rg), (oa rx cI cap X), (oa ry cI cap Y)] : va_W) = [(oc3 lw (.ref dr) (.ref tg) (.ref wy) (.ref br) (.ref bo) (.ref aa)), (oc6 tg (.ref tx) (.ref ty) (nI 3) 1), (oa tx cI 3 (upd (upd (upd TX 0 (X i0)) 1 (X i1)) 2 (X i2))), (oa ty cI 3 (upd (upd (upd TY 0 (Y i0)) 1 (Y i1)) 2 (Y i2))), (oc6 r (.ref rx) (.ref ry) (nI n) rg), (oa rx cI cap X), (oa ry cI cap Y)] := by rfl
  rw [hE9] at hP9 hD9
  rw [hQ9]
  exact W.vret hx hb hr (fun t ht hW => ⟨⟨rfl, by rw [ht]; exact hP9, hD9⟩, hS.F ht⟩) hS.2.2 dX4_setTriangle_71
set_option maxHeartbeats 4000000 in
set_option maxRecDepth 100000 in
theorem k_Law_setTriangle_ood (l : Launch) (dC : Nat → ClassId) (dI : Nat → Nat → Nat) (cI cZ cF : ClassId) (sz : Nat) (lw : Nat) (dr : Nat) (tg : Nat) (wy : Nat) (br : Nat) (bo : Nat) (aa : Nat) (tx : Nat) (ty : Nat) (nt : Nat) (TX : Nat → Int32) (TY : Nat → Int32) (rt : Int32) (r : Nat) (rx : Nat) (ry : Nat) (n : Nat) (cap : Nat) (X : Nat → Int32) (Y : Nat → Int32) (rg : Int32) (dx : Nat) (dy : Nat) (nd : Nat) (cd : Nat) (P : Nat → Int32) (Q : Nat → Int32) (rd : Int32) (i0 : Nat) (i1 : Nat) (i2 : Nat) (hn : n ≤ cap) (hcap : cap ≤ 1000) (hnd : nd ≤ cd) (hcd : cd ≤ 1000) (hi0 : i0 < n) (hi1 : i1 < n) (hi2 : i2 < nd) : zM l yX4_setTriangle cX4_setTriangle 7 none ({ frames := 1, cells := 0, slots := 0, locals := 22 } : Room) [.ref lw, .ref r, .int (nI i0), .ref r, .int (nI i1), .ref dr, .int (nI i2)] (dC, dI) (zTy cI cZ cF) [(oc3 lw (.ref dr) (.ref tg) (.ref wy) (.ref br) (.ref bo) (.ref aa)), (oc6 tg (.ref tx) (.ref ty) (nI nt) rt), (oa tx cI 3 TX), (oa ty cI 3 TY), (oc6 r (.ref rx) (.ref ry) (nI n) rg), (oa rx cI cap X), (oa ry cI cap Y), (oc6 dr (.ref dx) (.ref dy) (nI nd) rd), (oa dx cI cd P), (oa dy cI cd Q)] sz none (fun A t => zPD (dC, dI) classes A [(oc3 lw (.ref dr) (.ref tg) (.ref wy) (.ref br) (.ref bo) (.ref aa)), (oc6 tg (.ref tx) (.ref ty) (nI 3) 1), (oa tx cI 3 (upd (upd (upd TX 0 (X i0)) 1 (X i1)) 2 (P i2))), (oa ty cI 3 (upd (upd (upd TY 0 (Y i0)) 1 (Y i1)) 2 (Q i2))), (oc6 r (.ref rx) (.ref ry) (nI n) rg), (oa rx cI cap X), (oa ry cI cap Y), (oc6 dr (.ref dx) (.ref dy) (nI nd) rd), (oa dx cI cd P), (oa dy cI cd Q)] t.heap) 0 0 := by
  refine zIn (own := "ScaleShop$Law") (loc := [(0, .ref lw), (1, .ref r), (2, .int (nI i0)), (3, .ref r), (4, .int (nI i1)), (5, .ref dr), (6, .int (nI i2))]) rfl rfl rfl rfl (fun p e s m below meth c hx hb hr hts hown hlocks hml hnm9 A hA hS hP hD hK hXN Q9 hQ9 ls hl => ?_)
  refine lv_aload_n hx hb dX4_setTriangle_0 rfl (lv_at hl 0 rfl) ?_
  refine va_get (D := (dC, dI)) (ci := 3) (v := .ref tg) (C := RX4) (T := TX4) (N := 6) hx hb hts inX4 hown hK hP 0 rfl rfl 1 (Nat.le_of_ble_eq_true rfl) (hts _ mw_221) (fun _ h9 => h9) rfl dX4_setTriangle_1 ?_
  refine lv_iconst (v := 1) hx hb dX4_setTriangle_4 rfl ?_
  obtain ⟨hPc, hDc, hFc⟩ := zo_sub (wc := [_, _, _]) hP hD hS hA [1, 2, 3] rfl rfl
  refine zcall (st1 := []) (va_runV (As := [.int 1]) (rest := []) ⟨hx, hb, hml, hown, hts⟩ (k_Row_clear l dC dI cI cZ cF s.heap.size tg tx ty nt 3 TX TY rt 1 (Or.inr rfl)) (csV_40 hts rfl rfl ⟨Nat.le_of_ble_eq_true rfl, Nat.le_of_ble_eq_true rfl⟩) (zPV2 (q0 := 0) (ci := 6) hPc hDc hK hXN rfl rfl) rfl rfl hl.1 rfl (lv_room (Nat.le_of_ble_eq_true rfl)) dX4_setTriangle_5 ⟨Nat.le_of_ble_eq_true rfl, Nat.le_of_ble_eq_true rfl⟩) hS hFc hFc rfl (fun t H locs ht hB hk1 hS => ?_)
  obtain ⟨hP1, hD1⟩ := hB
  rw [ht] at hP1
  obtain ⟨hP, hD⟩ := zn (W2 := [_, (oc6 tg (.ref tx) (.ref ty) (nI 0) 1), _, _, _, _, _, _, _, _]) hP hD hk1 hFc hP1 hD1 [1, 2, 3] zl_10 zl_10 [1, 2, 3] (by decide +kernel) rfl rfl rfl rfl rfl
  clear hk1 hPc hDc hFc hP1 hD1 ht
  refine lv_aload_n hx hb dX4_setTriangle_8 rfl (lv_at hl 0 rfl) ?_
  refine va_get (D := (dC, dI)) (ci := 3) (v := .ref tg) (C := RX4) (T := TX4) (N := 6) hx hb hts inX4 hown hK hP 0 rfl rfl 1 (Nat.le_of_ble_eq_true rfl) (hts _ mw_221) (fun _ h9 => h9) rfl dX4_setTriangle_9 ?_
  refine lv_aload_n hx hb dX4_setTriangle_12 rfl (lv_at hl 1 rfl) ?_
  refine va_get (D := (dC, dI)) (ci := 6) (v := .ref rx) (C := RX7) (T := TX7) (N := 4) hx hb hts inX7 hown hK hP 4 rfl rfl 0 (Nat.le_of_ble_eq_true rfl) (hts _ mw_163) (fun _ h9 => h9) rfl dX4_setTriangle_13 ?_
  refine lv_iload_n hx hb dX4_setTriangle_16 rfl (lv_at hl 2 rfl) ?_
  have b9_1 : i0 < cap := by omega
  have b9_2 : zlt (cap) := show cap < 2147483648 by omega
  refine z_iald hx hb hK hP 5 0 rfl rfl (e := i0) rfl b9_1 b9_2 dX4_setTriangle_17 ?_
  refine lv_aload_n hx hb dX4_setTriangle_18 rfl (lv_at hl 1 rfl) ?_
  refine va_get (D := (dC, dI)) (ci := 6) (v := .ref ry) (C := RX7) (T := TX7) (N := 4) hx hb hts inX7 hown hK hP 4 rfl rfl 1 (Nat.le_of_ble_eq_true rfl) (hts _ mw_170) (fun _ h9 => h9) rfl dX4_setTriangle_19 ?_
  refine lv_iload_n hx hb dX4_setTriangle_22 rfl (lv_at hl 2 rfl) ?_
  refine z_iald hx hb hK hP 6 0 rfl rfl (e := i0) rfl b9_1 b9_2 dX4_setTriangle_23 ?_
  obtain ⟨hPc, hDc, hFc⟩ := zo_sub (wc := [_, _, _]) hP hD hS hA [1, 2, 3] rfl rfl
  refine zcall (st1 := []) (va_runV (As := [.int (X i0), .int (Y i0)]) (rest := []) ⟨hx, hb, hml, hown, hts⟩ (k_Row_put l dC dI cI cZ cF H.size tg tx ty 0 3 TX TY 1 (X i0) (Y i0) (by first | with_reducible assumption | omega) (by first | with_reducible assumption | omega)) (csV_41 hts rfl rfl ⟨Nat.le_of_ble_eq_true rfl, Nat.le_of_ble_eq_true rfl⟩) (zPV2 (q0 := 0) (ci := 6) hPc hDc hK hXN rfl rfl) rfl rfl hl.1 rfl (lv_room (Nat.le_of_ble_eq_true rfl)) dX4_setTriangle_24 ⟨Nat.le_of_ble_eq_true rfl, Nat.le_of_ble_eq_true rfl⟩) hS hFc hFc rfl (fun t H locs ht hB hk1 hS => ?_)
  obtain ⟨hP1, hD1⟩ := hB
  rw [ht] at hP1
  obtain ⟨hP, hD⟩ := zn (W2 := [_, (oc6 tg (.ref tx) (.ref ty) (nI (0 + 1)) 1), (oa tx cI 3 (upd TX 0 (X i0))), (oa ty cI 3 (upd TY 0 (Y i0))), _, _, _, _, _, _]) hP hD hk1 hFc hP1 hD1 [1, 2, 3] zl_10 zl_10 [1, 2, 3] (by decide +kernel) rfl rfl rfl rfl rfl
  clear hk1 hPc hDc hFc hP1 hD1 ht
  refine lv_aload_n hx hb dX4_setTriangle_27 rfl (lv_at hl 0 rfl) ?_
  refine va_get (D := (dC, dI)) (ci := 3) (v := .ref tg) (C := RX4) (T := TX4) (N := 6) hx hb hts inX4 hown hK hP 0 rfl rfl 1 (Nat.le_of_ble_eq_true rfl) (hts _ mw_221) (fun _ h9 => h9) rfl dX4_setTriangle_28 ?_
  refine lv_aload_n hx hb dX4_setTriangle_31 rfl (lv_at hl 3 rfl) ?_
  refine va_get (D := (dC, dI)) (ci := 6) (v := .ref rx) (C := RX7) (T := TX7) (N := 4) hx hb hts inX7 hown hK hP 4 rfl rfl 0 (Nat.le_of_ble_eq_true rfl) (hts _ mw_163) (fun _ h9 => h9) rfl dX4_setTriangle_32 ?_
  refine lv_iload hx hb dX4_setTriangle_35 (lv_at hl 4 rfl) ?_
  have b9_3 : i1 < cap := by omega
  refine z_iald hx hb hK hP 5 0 rfl rfl (e := i1) rfl b9_3 b9_2 dX4_setTriangle_37 ?_
  refine lv_aload_n hx hb dX4_setTriangle_38 rfl (lv_at hl 3 rfl) ?_
  refine va_get (D := (dC, dI)) (ci := 6) (v := .ref ry) (C := RX7) (T := TX7) (N := 4) hx hb hts inX7 hown hK hP 4 rfl rfl 1 (Nat.le_of_ble_eq_true rfl) (hts _ mw_170) (fun _ h9 => h9) rfl dX4_setTriangle_39 ?_
  refine lv_iload hx hb dX4_setTriangle_42 (lv_at hl 4 rfl) ?_
  refine z_iald hx hb hK hP 6 0 rfl rfl (e := i1) rfl b9_3 b9_2 dX4_setTriangle_44 ?_
  obtain ⟨hPc, hDc, hFc⟩ := zo_sub (wc := [_, _, _]) hP hD hS hA [1, 2, 3] rfl rfl
  refine zcall (st1 := []) (va_runV (As := [.int (X i1), .int (Y i1)]) (rest := []) ⟨hx, hb, hml, hown, hts⟩ (k_Row_put l dC dI cI cZ cF H.size tg tx ty (0 + 1) 3 (upd TX 0 (X i0)) (upd TY 0 (Y i0)) 1 (X i1) (Y i1) (by first | with_reducible assumption | omega) (by first | with_reducible assumption | omega)) (csV_41 hts rfl rfl ⟨Nat.le_of_ble_eq_true rfl, Nat.le_of_ble_eq_true rfl⟩) (zPV2 (q0 := 0) (ci := 6) hPc hDc hK hXN rfl rfl) rfl rfl hl.1 rfl (lv_room (Nat.le_of_ble_eq_true rfl)) dX4_setTriangle_45 ⟨Nat.le_of_ble_eq_true rfl, Nat.le_of_ble_eq_true rfl⟩) hS hFc hFc rfl (fun t H locs ht hB hk1 hS => ?_)
  obtain ⟨hP1, hD1⟩ := hB
  rw [ht] at hP1
  obtain ⟨hP, hD⟩ := zn (W2 := [_, (oc6 tg (.ref tx) (.ref ty) (nI ((0 + 1) + 1)) 1), (oa tx cI 3 (upd (upd TX 0 (X i0)) (0 + 1) (X i1))), (oa ty cI 3 (upd (upd TY 0 (Y i0)) (0 + 1) (Y i1))), _, _, _, _, _, _]) hP hD hk1 hFc hP1 hD1 [1, 2, 3] zl_10 zl_10 [1, 2, 3] (by decide +kernel) rfl rfl rfl rfl rfl
  clear hk1 hPc hDc hFc hP1 hD1 ht
  refine lv_aload_n hx hb dX4_setTriangle_48 rfl (lv_at hl 0 rfl) ?_
  refine va_get (D := (dC, dI)) (ci := 3) (v := .ref tg) (C := RX4) (T := TX4) (N := 6) hx hb hts inX4 hown hK hP 0 rfl rfl 1 (Nat.le_of_ble_eq_true rfl) (hts _ mw_221) (fun _ h9 => h9) rfl dX4_setTriangle_49 ?_
  refine lv_aload hx hb dX4_setTriangle_52 (lv_at hl 5 rfl) ?_
  refine va_get (D := (dC, dI)) (ci := 6) (v := .ref dx) (C := RX7) (T := TX7) (N := 4) hx hb hts inX7 hown hK hP 7 rfl rfl 0 (Nat.le_of_ble_eq_true rfl) (hts _ mw_163) (fun _ h9 => h9) rfl dX4_setTriangle_54 ?_
  refine lv_iload hx hb dX4_setTriangle_57 (lv_at hl 6 rfl) ?_
  have b9_4 : i2 < cd := by omega
  have b9_5 : zlt (cd) := show cd < 2147483648 by omega
  refine z_iald hx hb hK hP 8 0 rfl rfl (e := i2) rfl b9_4 b9_5 dX4_setTriangle_59 ?_
  refine lv_aload hx hb dX4_setTriangle_60 (lv_at hl 5 rfl) ?_
  refine va_get (D := (dC, dI)) (ci := 6) (v := .ref dy) (C := RX7) (T := TX7) (N := 4) hx hb hts inX7 hown hK hP 7 rfl rfl 1 (Nat.le_of_ble_eq_true rfl) (hts _ mw_170) (fun _ h9 => h9) rfl dX4_setTriangle_62 ?_
  refine lv_iload hx hb dX4_setTriangle_65 (lv_at hl 6 rfl) ?_
  refine z_iald hx hb hK hP 9 0 rfl rfl (e := i2) rfl b9_4 b9_5 dX4_setTriangle_67 ?_
  obtain ⟨hPc, hDc, hFc⟩ := zo_sub (wc := [_, _, _]) hP hD hS hA [1, 2, 3] rfl rfl
  refine zcall (st1 := []) (va_runV (As := [.int (P i2), .int (Q i2)]) (rest := []) ⟨hx, hb, hml, hown, hts⟩ (k_Row_put l dC dI cI cZ cF H.size tg tx ty ((0 + 1) + 1) 3 (upd (upd TX 0 (X i0)) (0 + 1) (X i1)) (upd (upd TY 0 (Y i0)) (0 + 1) (Y i1)) 1 (P i2) (Q i2) (by first | with_reducible assumption | omega) (by first | with_reducible assumption | omega)) (csV_41 hts rfl rfl ⟨Nat.le_of_ble_eq_true rfl, Nat.le_of_ble_eq_true rfl⟩) (zPV2 (q0 := 0) (ci := 6) hPc hDc hK hXN rfl rfl) rfl rfl hl.1 rfl (lv_room (Nat.le_of_ble_eq_true rfl)) dX4_setTriangle_68 ⟨Nat.le_of_ble_eq_true rfl, Nat.le_of_ble_eq_true rfl⟩) hS hFc hFc rfl (fun t H locs ht hB hk1 hS => ?_)
  obtain ⟨hP1, hD1⟩ := hB
  rw [ht] at hP1
  obtain ⟨hP, hD⟩ := zn (W2 := [_, (oc6 tg (.ref tx) (.ref ty) (nI (((0 + 1) + 1) + 1)) 1), (oa tx cI 3 (upd (upd (upd TX 0 (X i0)) (0 + 1) (X i1)) ((0 + 1) + 1) (P i2))), (oa ty cI 3 (upd (upd (upd TY 0 (Y i0)) (0 + 1) (Y i1)) ((0 + 1) + 1) (Q i2))), _, _, _, _, _, _]) hP hD hk1 hFc hP1 hD1 [1, 2, 3] zl_10 zl_10 [1, 2, 3] (by decide +kernel) rfl rfl rfl rfl rfl
  clear hk1 hPc hDc hFc hP1 hD1 ht
  obtain ⟨hP9, hD9⟩ := zu_sub (wc := [(oc3 lw (.ref dr) (.ref tg) (.ref wy) (.ref br) (.ref bo) (.ref aa)), (oc6 tg (.ref tx) (.ref ty) (nI (((0 + 1) + 1) + 1)) 1), (oa tx cI 3 (upd (upd (upd TX 0 (X i0)) (0 + 1) (X i1)) ((0 + 1) + 1) (P i2))), (oa ty cI 3 (upd (upd (upd TY 0 (Y i0)) (0 + 1) (Y i1)) ((0 + 1) + 1) (Q i2))), (oc6 r (.ref rx) (.ref ry) (nI n) rg), (oa rx cI cap X), (oa ry cI cap Y), (oc6 dr (.ref dx) (.ref dy) (nI nd) rd), (oa dx cI cd P), (oa dy cI cd Q)]) hP hD [true, true, true, true, true, true, true, true, true, true] rfl rfl
  have hE9 : ([(oc3 lw (.ref dr) (.ref tg) (.ref wy) (.ref br) (.ref bo) (.ref aa)), (oc6 tg (.ref tx) (.ref ty) (nI (((0 + 1) + 1) + 1)) 1), (oa tx cI 3 (upd (upd (upd TX 0 (X i0)) (0 + 1) (X i1)) ((0 + 1) + 1) (P i2))), (oa ty cI 3 (upd (upd (upd TY 0 (Y i0)) (0 + 1) (Y i1)) ((0 + 1) + 1) (Q i2))), (oc6 r (.ref rx) (.ref ry) (nI n) rg), (oa rx cI cap X), (oa ry cI cap Y), (oc6 dr (.ref dx) (.ref dy) (nI nd) rd), (oa dx cI cd P), (oa dy cI cd Q)] : va_W) = [(oc3 lw (.ref dr) (.ref tg) (.ref wy) (.ref br) (.ref bo) (.ref aa)), (oc6 tg (.ref tx) (.ref ty) (nI 3) 1), (oa tx cI 3 (upd (upd (upd TX 0 (X i0)) 1 (X i1)) 2 (P i2))), (oa ty cI 3 (upd (upd (upd TY 0 (Y i0)) 1 (Y i1)) 2 (Q i2))), (oc6 r (.ref rx) (.ref ry) (nI n) rg), (oa rx cI cap X), (oa ry cI cap Y), (oc6 dr (.ref dx) (.ref dy) (nI nd) rd), (oa dx cI cd P), (oa dy cI cd Q)] := by rfl
  rw [hE9] at hP9 hD9
  rw [hQ9]
  exact W.vret hx hb hr (fun t ht hW => ⟨⟨rfl, by rw [ht]; exact hP9, hD9⟩, hS.F ht⟩) hS.2.2 dX4_setTriangle_71
set_option maxHeartbeats 4000000 in
set_option maxRecDepth 100000 in
theorem k_Law_setTriangle_odd (l : Launch) (dC : Nat → ClassId) (dI : Nat → Nat → Nat) (cI cZ cF : ClassId) (sz : Nat) (lw : Nat) (dr : Nat) (tg : Nat) (wy : Nat) (br : Nat) (bo : Nat) (aa : Nat) (tx : Nat) (ty : Nat) (nt : Nat) (TX : Nat → Int32) (TY : Nat → Int32) (rt : Int32) (r : Nat) (rx : Nat) (ry : Nat) (n : Nat) (cap : Nat) (X : Nat → Int32) (Y : Nat → Int32) (rg : Int32) (dx : Nat) (dy : Nat) (nd : Nat) (cd : Nat) (P : Nat → Int32) (Q : Nat → Int32) (rd : Int32) (i0 : Nat) (i1 : Nat) (i2 : Nat) (hn : n ≤ cap) (hcap : cap ≤ 1000) (hnd : nd ≤ cd) (hcd : cd ≤ 1000) (hi0 : i0 < n) (hi1 : i1 < nd) (hi2 : i2 < nd) : zM l yX4_setTriangle cX4_setTriangle 7 none ({ frames := 1, cells := 0, slots := 0, locals := 22 } : Room) [.ref lw, .ref r, .int (nI i0), .ref dr, .int (nI i1), .ref dr, .int (nI i2)] (dC, dI) (zTy cI cZ cF) [(oc3 lw (.ref dr) (.ref tg) (.ref wy) (.ref br) (.ref bo) (.ref aa)), (oc6 tg (.ref tx) (.ref ty) (nI nt) rt), (oa tx cI 3 TX), (oa ty cI 3 TY), (oc6 r (.ref rx) (.ref ry) (nI n) rg), (oa rx cI cap X), (oa ry cI cap Y), (oc6 dr (.ref dx) (.ref dy) (nI nd) rd), (oa dx cI cd P), (oa dy cI cd Q)] sz none (fun A t => zPD (dC, dI) classes A [(oc3 lw (.ref dr) (.ref tg) (.ref wy) (.ref br) (.ref bo) (.ref aa)), (oc6 tg (.ref tx) (.ref ty) (nI 3) 1), (oa tx cI 3 (upd (upd (upd TX 0 (X i0)) 1 (P i1)) 2 (P i2))), (oa ty cI 3 (upd (upd (upd TY 0 (Y i0)) 1 (Q i1)) 2 (Q i2))), (oc6 r (.ref rx) (.ref ry) (nI n) rg), (oa rx cI cap X), (oa ry cI cap Y), (oc6 dr (.ref dx) (.ref dy) (nI nd) rd), (oa dx cI cd P), (oa dy cI cd Q)] t.heap) 0 0 := by
  refine zIn (own := "ScaleShop$Law") (loc := [(0, .ref lw), (1, .ref r), (2, .int (nI i0)), (3, .ref dr), (4, .int (nI i1)), (5, .ref dr), (6, .int (nI i2))]) rfl rfl rfl rfl (fun p e s m below meth c hx hb hr hts hown hlocks hml hnm9 A hA hS hP hD hK hXN Q9 hQ9 ls hl => ?_)
  refine lv_aload_n hx hb dX4_setTriangle_0 rfl (lv_at hl 0 rfl) ?_
  refine va_get (D := (dC, dI)) (ci := 3) (v := .ref tg) (C := RX4) (T := TX4) (N := 6) hx hb hts inX4 hown hK hP 0 rfl rfl 1 (Nat.le_of_ble_eq_true rfl) (hts _ mw_221) (fun _ h9 => h9) rfl dX4_setTriangle_1 ?_
  refine lv_iconst (v := 1) hx hb dX4_setTriangle_4 rfl ?_
  obtain ⟨hPc, hDc, hFc⟩ := zo_sub (wc := [_, _, _]) hP hD hS hA [1, 2, 3] rfl rfl
  refine zcall (st1 := []) (va_runV (As := [.int 1]) (rest := []) ⟨hx, hb, hml, hown, hts⟩ (k_Row_clear l dC dI cI cZ cF s.heap.size tg tx ty nt 3 TX TY rt 1 (Or.inr rfl)) (csV_40 hts rfl rfl ⟨Nat.le_of_ble_eq_true rfl, Nat.le_of_ble_eq_true rfl⟩) (zPV2 (q0 := 0) (ci := 6) hPc hDc hK hXN rfl rfl) rfl rfl hl.1 rfl (lv_room (Nat.le_of_ble_eq_true rfl)) dX4_setTriangle_5 ⟨Nat.le_of_ble_eq_true rfl, Nat.le_of_ble_eq_true rfl⟩) hS hFc hFc rfl (fun t H locs ht hB hk1 hS => ?_)
  obtain ⟨hP1, hD1⟩ := hB
  rw [ht] at hP1
  obtain ⟨hP, hD⟩ := zn (W2 := [_, (oc6 tg (.ref tx) (.ref ty) (nI 0) 1), _, _, _, _, _, _, _, _]) hP hD hk1 hFc hP1 hD1 [1, 2, 3] zl_10 zl_10 [1, 2, 3] (by decide +kernel) rfl rfl rfl rfl rfl
  clear hk1 hPc hDc hFc hP1 hD1 ht
  refine lv_aload_n hx hb dX4_setTriangle_8 rfl (lv_at hl 0 rfl) ?_
  refine va_get (D := (dC, dI)) (ci := 3) (v := .ref tg) (C := RX4) (T := TX4) (N := 6) hx hb hts inX4 hown hK hP 0 rfl rfl 1 (Nat.le_of_ble_eq_true rfl) (hts _ mw_221) (fun _ h9 => h9) rfl dX4_setTriangle_9 ?_
  refine lv_aload_n hx hb dX4_setTriangle_12 rfl (lv_at hl 1 rfl) ?_
  refine va_get (D := (dC, dI)) (ci := 6) (v := .ref rx) (C := RX7) (T := TX7) (N := 4) hx hb hts inX7 hown hK hP 4 rfl rfl 0 (Nat.le_of_ble_eq_true rfl) (hts _ mw_163) (fun _ h9 => h9) rfl dX4_setTriangle_13 ?_
  refine lv_iload_n hx hb dX4_setTriangle_16 rfl (lv_at hl 2 rfl) ?_
  have b9_1 : i0 < cap := by omega
  have b9_2 : zlt (cap) := show cap < 2147483648 by omega
  refine z_iald hx hb hK hP 5 0 rfl rfl (e := i0) rfl b9_1 b9_2 dX4_setTriangle_17 ?_
  refine lv_aload_n hx hb dX4_setTriangle_18 rfl (lv_at hl 1 rfl) ?_
  refine va_get (D := (dC, dI)) (ci := 6) (v := .ref ry) (C := RX7) (T := TX7) (N := 4) hx hb hts inX7 hown hK hP 4 rfl rfl 1 (Nat.le_of_ble_eq_true rfl) (hts _ mw_170) (fun _ h9 => h9) rfl dX4_setTriangle_19 ?_
  refine lv_iload_n hx hb dX4_setTriangle_22 rfl (lv_at hl 2 rfl) ?_
  refine z_iald hx hb hK hP 6 0 rfl rfl (e := i0) rfl b9_1 b9_2 dX4_setTriangle_23 ?_
  obtain ⟨hPc, hDc, hFc⟩ := zo_sub (wc := [_, _, _]) hP hD hS hA [1, 2, 3] rfl rfl
  refine zcall (st1 := []) (va_runV (As := [.int (X i0), .int (Y i0)]) (rest := []) ⟨hx, hb, hml, hown, hts⟩ (k_Row_put l dC dI cI cZ cF H.size tg tx ty 0 3 TX TY 1 (X i0) (Y i0) (by first | with_reducible assumption | omega) (by first | with_reducible assumption | omega)) (csV_41 hts rfl rfl ⟨Nat.le_of_ble_eq_true rfl, Nat.le_of_ble_eq_true rfl⟩) (zPV2 (q0 := 0) (ci := 6) hPc hDc hK hXN rfl rfl) rfl rfl hl.1 rfl (lv_room (Nat.le_of_ble_eq_true rfl)) dX4_setTriangle_24 ⟨Nat.le_of_ble_eq_true rfl, Nat.le_of_ble_eq_true rfl⟩) hS hFc hFc rfl (fun t H locs ht hB hk1 hS => ?_)
  obtain ⟨hP1, hD1⟩ := hB
  rw [ht] at hP1
  obtain ⟨hP, hD⟩ := zn (W2 := [_, (oc6 tg (.ref tx) (.ref ty) (nI (0 + 1)) 1), (oa tx cI 3 (upd TX 0 (X i0))), (oa ty cI 3 (upd TY 0 (Y i0))), _, _, _, _, _, _]) hP hD hk1 hFc hP1 hD1 [1, 2, 3] zl_10 zl_10 [1, 2, 3] (by decide +kernel) rfl rfl rfl rfl rfl
  clear hk1 hPc hDc hFc hP1 hD1 ht
  refine lv_aload_n hx hb dX4_setTriangle_27 rfl (lv_at hl 0 rfl) ?_
  refine va_get (D := (dC, dI)) (ci := 3) (v := .ref tg) (C := RX4) (T := TX4) (N := 6) hx hb hts inX4 hown hK hP 0 rfl rfl 1 (Nat.le_of_ble_eq_true rfl) (hts _ mw_221) (fun _ h9 => h9) rfl dX4_setTriangle_28 ?_
  refine lv_aload_n hx hb dX4_setTriangle_31 rfl (lv_at hl 3 rfl) ?_
  refine va_get (D := (dC, dI)) (ci := 6) (v := .ref dx) (C := RX7) (T := TX7) (N := 4) hx hb hts inX7 hown hK hP 7 rfl rfl 0 (Nat.le_of_ble_eq_true rfl) (hts _ mw_163) (fun _ h9 => h9) rfl dX4_setTriangle_32 ?_
  refine lv_iload hx hb dX4_setTriangle_35 (lv_at hl 4 rfl) ?_
  have b9_3 : i1 < cd := by omega
  have b9_4 : zlt (cd) := show cd < 2147483648 by omega
  refine z_iald hx hb hK hP 8 0 rfl rfl (e := i1) rfl b9_3 b9_4 dX4_setTriangle_37 ?_
  refine lv_aload_n hx hb dX4_setTriangle_38 rfl (lv_at hl 3 rfl) ?_
  refine va_get (D := (dC, dI)) (ci := 6) (v := .ref dy) (C := RX7) (T := TX7) (N := 4) hx hb hts inX7 hown hK hP 7 rfl rfl 1 (Nat.le_of_ble_eq_true rfl) (hts _ mw_170) (fun _ h9 => h9) rfl dX4_setTriangle_39 ?_
  refine lv_iload hx hb dX4_setTriangle_42 (lv_at hl 4 rfl) ?_
  refine z_iald hx hb hK hP 9 0 rfl rfl (e := i1) rfl b9_3 b9_4 dX4_setTriangle_44 ?_
  obtain ⟨hPc, hDc, hFc⟩ := zo_sub (wc := [_, _, _]) hP hD hS hA [1, 2, 3] rfl rfl
  refine zcall (st1 := []) (va_runV (As := [.int (P i1), .int (Q i1)]) (rest := []) ⟨hx, hb, hml, hown, hts⟩ (k_Row_put l dC dI cI cZ cF H.size tg tx ty (0 + 1) 3 (upd TX 0 (X i0)) (upd TY 0 (Y i0)) 1 (P i1) (Q i1) (by first | with_reducible assumption | omega) (by first | with_reducible assumption | omega)) (csV_41 hts rfl rfl ⟨Nat.le_of_ble_eq_true rfl, Nat.le_of_ble_eq_true rfl⟩) (zPV2 (q0 := 0) (ci := 6) hPc hDc hK hXN rfl rfl) rfl rfl hl.1 rfl (lv_room (Nat.le_of_ble_eq_true rfl)) dX4_setTriangle_45 ⟨Nat.le_of_ble_eq_true rfl, Nat.le_of_ble_eq_true rfl⟩) hS hFc hFc rfl (fun t H locs ht hB hk1 hS => ?_)
  obtain ⟨hP1, hD1⟩ := hB
  rw [ht] at hP1
  obtain ⟨hP, hD⟩ := zn (W2 := [_, (oc6 tg (.ref tx) (.ref ty) (nI ((0 + 1) + 1)) 1), (oa tx cI 3 (upd (upd TX 0 (X i0)) (0 + 1) (P i1))), (oa ty cI 3 (upd (upd TY 0 (Y i0)) (0 + 1) (Q i1))), _, _, _, _, _, _]) hP hD hk1 hFc hP1 hD1 [1, 2, 3] zl_10 zl_10 [1, 2, 3] (by decide +kernel) rfl rfl rfl rfl rfl
  clear hk1 hPc hDc hFc hP1 hD1 ht
  refine lv_aload_n hx hb dX4_setTriangle_48 rfl (lv_at hl 0 rfl) ?_
  refine va_get (D := (dC, dI)) (ci := 3) (v := .ref tg) (C := RX4) (T := TX4) (N := 6) hx hb hts inX4 hown hK hP 0 rfl rfl 1 (Nat.le_of_ble_eq_true rfl) (hts _ mw_221) (fun _ h9 => h9) rfl dX4_setTriangle_49 ?_
  refine lv_aload hx hb dX4_setTriangle_52 (lv_at hl 5 rfl) ?_
  refine va_get (D := (dC, dI)) (ci := 6) (v := .ref dx) (C := RX7) (T := TX7) (N := 4) hx hb hts inX7 hown hK hP 7 rfl rfl 0 (Nat.le_of_ble_eq_true rfl) (hts _ mw_163) (fun _ h9 => h9) rfl dX4_setTriangle_54 ?_
  refine lv_iload hx hb dX4_setTriangle_57 (lv_at hl 6 rfl) ?_
  have b9_5 : i2 < cd := by omega
  refine z_iald hx hb hK hP 8 0 rfl rfl (e := i2) rfl b9_5 b9_4 dX4_setTriangle_59 ?_
  refine lv_aload hx hb dX4_setTriangle_60 (lv_at hl 5 rfl) ?_
  refine va_get (D := (dC, dI)) (ci := 6) (v := .ref dy) (C := RX7) (T := TX7) (N := 4) hx hb hts inX7 hown hK hP 7 rfl rfl 1 (Nat.le_of_ble_eq_true rfl) (hts _ mw_170) (fun _ h9 => h9) rfl dX4_setTriangle_62 ?_
  refine lv_iload hx hb dX4_setTriangle_65 (lv_at hl 6 rfl) ?_
  refine z_iald hx hb hK hP 9 0 rfl rfl (e := i2) rfl b9_5 b9_4 dX4_setTriangle_67 ?_
  obtain ⟨hPc, hDc, hFc⟩ := zo_sub (wc := [_, _, _]) hP hD hS hA [1, 2, 3] rfl rfl
  refine zcall (st1 := []) (va_runV (As := [.int (P i2), .int (Q i2)]) (rest := []) ⟨hx, hb, hml, hown, hts⟩ (k_Row_put l dC dI cI cZ cF H.size tg tx ty ((0 + 1) + 1) 3 (upd (upd TX 0 (X i0)) (0 + 1) (P i1)) (upd (upd TY 0 (Y i0)) (0 + 1) (Q i1)) 1 (P i2) (Q i2) (by first | with_reducible assumption | omega) (by first | with_reducible assumption | omega)) (csV_41 hts rfl rfl ⟨Nat.le_of_ble_eq_true rfl, Nat.le_of_ble_eq_true rfl⟩) (zPV2 (q0 := 0) (ci := 6) hPc hDc hK hXN rfl rfl) rfl rfl hl.1 rfl (lv_room (Nat.le_of_ble_eq_true rfl)) dX4_setTriangle_68 ⟨Nat.le_of_ble_eq_true rfl, Nat.le_of_ble_eq_true rfl⟩) hS hFc hFc rfl (fun t H locs ht hB hk1 hS => ?_)
  obtain ⟨hP1, hD1⟩ := hB
  rw [ht] at hP1
  obtain ⟨hP, hD⟩ := zn (W2 := [_, (oc6 tg (.ref tx) (.ref ty) (nI (((0 + 1) + 1) + 1)) 1), (oa tx cI 3 (upd (upd (upd TX 0 (X i0)) (0 + 1) (P i1)) ((0 + 1) + 1) (P i2))), (oa ty cI 3 (upd (upd (upd TY 0 (Y i0)) (0 + 1) (Q i1)) ((0 + 1) + 1) (Q i2))), _, _, _, _, _, _]) hP hD hk1 hFc hP1 hD1 [1, 2, 3] zl_10 zl_10 [1, 2, 3] (by decide +kernel) rfl rfl rfl rfl rfl
  clear hk1 hPc hDc hFc hP1 hD1 ht
  obtain ⟨hP9, hD9⟩ := zu_sub (wc := [(oc3 lw (.ref dr) (.ref tg) (.ref wy) (.ref br) (.ref bo) (.ref aa)), (oc6 tg (.ref tx) (.ref ty) (nI (((0 + 1) + 1) + 1)) 1), (oa tx cI 3 (upd (upd (upd TX 0 (X i0)) (0 + 1) (P i1)) ((0 + 1) + 1) (P i2))), (oa ty cI 3 (upd (upd (upd TY 0 (Y i0)) (0 + 1) (Q i1)) ((0 + 1) + 1) (Q i2))), (oc6 r (.ref rx) (.ref ry) (nI n) rg), (oa rx cI cap X), (oa ry cI cap Y), (oc6 dr (.ref dx) (.ref dy) (nI nd) rd), (oa dx cI cd P), (oa dy cI cd Q)]) hP hD [true, true, true, true, true, true, true, true, true, true] rfl rfl
  have hE9 : ([(oc3 lw (.ref dr) (.ref tg) (.ref wy) (.ref br) (.ref bo) (.ref aa)), (oc6 tg (.ref tx) (.ref ty) (nI (((0 + 1) + 1) + 1)) 1), (oa tx cI 3 (upd (upd (upd TX 0 (X i0)) (0 + 1) (P i1)) ((0 + 1) + 1) (P i2))), (oa ty cI 3 (upd (upd (upd TY 0 (Y i0)) (0 + 1) (Q i1)) ((0 + 1) + 1) (Q i2))), (oc6 r (.ref rx) (.ref ry) (nI n) rg), (oa rx cI cap X), (oa ry cI cap Y), (oc6 dr (.ref dx) (.ref dy) (nI nd) rd), (oa dx cI cd P), (oa dy cI cd Q)] : va_W) = [(oc3 lw (.ref dr) (.ref tg) (.ref wy) (.ref br) (.ref bo) (.ref aa)), (oc6 tg (.ref tx) (.ref ty) (nI 3) 1), (oa tx cI 3 (upd (upd (upd TX 0 (X i0)) 1 (P i1)) 2 (P i2))), (oa ty cI 3 (upd (upd (upd TY 0 (Y i0)) 1 (Q i1)) 2 (Q i2))), (oc6 r (.ref rx) (.ref ry) (nI n) rg), (oa rx cI cap X), (oa ry cI cap Y), (oc6 dr (.ref dx) (.ref dy) (nI nd) rd), (oa dx cI cd P), (oa dy cI cd Q)] := by rfl
  rw [hE9] at hP9 hD9
  rw [hQ9]
  exact W.vret hx hb hr (fun t ht hW => ⟨⟨rfl, by rw [ht]; exact hP9, hD9⟩, hS.F ht⟩) hS.2.2 dX4_setTriangle_71
set_option maxHeartbeats 4000000 in
set_option maxRecDepth 100000 in
theorem k_Law_holdsCorner_rr (l : Launch) (dC : Nat → ClassId) (dI : Nat → Nat → Nat) (cI cZ cF : ClassId) (sz : Nat) (lw : Nat) (dr : Nat) (tg : Nat) (wy : Nat) (br : Nat) (bo : Nat) (aa : Nat) (tx : Nat) (ty : Nat) (TX : Nat → Int32) (TY : Nat → Int32) (u : Nat) (ux : Nat) (uy : Nat) (m2 : Nat) (cap2 : Nat) (U : Nat → Int32) (V : Nat → Int32) (rh : Int32) (r : Nat) (rx : Nat) (ry : Nat) (n : Nat) (cap : Nat) (X : Nat → Int32) (Y : Nat → Int32) (rg : Int32) (a9 : Nat) (c9 : Nat) (hn : n ≤ cap) (hcap : cap ≤ 1000) (hm : m2 ≤ cap2) (hcap2 : cap2 ≤ 1000) (hq : pls m2 U V) (hpt : pls 3 TX TY) (ha : a9 < n) (hc9 : c9 < n) : zM l yX4_holdsCorner cX4_holdsCorner 10 (some .boolean) ({ frames := 1, cells := 0, slots := 0, locals := 26 } : Room) [.ref lw, .ref u, .ref r, .int (nI a9), .ref r, .int (nI c9)] (dC, dI) (zTy cI cZ cF) [(oc3 lw (.ref dr) (.ref tg) (.ref wy) (.ref br) (.ref bo) (.ref aa)), (oc6 tg (.ref tx) (.ref ty) (nI 3) 1), (oa tx cI 3 TX), (oa ty cI 3 TY), (oc6 u (.ref ux) (.ref uy) (nI m2) rh), (oa ux cI cap2 U), (oa uy cI cap2 V), (oc6 r (.ref rx) (.ref ry) (nI n) rg), (oa rx cI cap X), (oa ry cI cap Y)] sz (some (.int (pI (∃ j7, j7 < m2 ∧ ¬ ((X a9).toInt = (U j7).toInt ∧ (Y a9).toInt = (V j7).toInt) ∧ ¬ ((X c9).toInt = (U j7).toInt ∧ (Y c9).toInt = (V j7).toInt) ∧ ¬ (whr 3 TX TY (U j7).toInt (V j7).toInt).toInt = 0)))) (fun A t => zPD (dC, dI) classes A [(oc3 lw (.ref dr) (.ref tg) (.ref wy) (.ref br) (.ref bo) (.ref aa)), (oc6 tg (.ref tx) (.ref ty) (nI 3) 1), (oa tx cI 3 TX), (oa ty cI 3 TY), (oc6 u (.ref ux) (.ref uy) (nI m2) rh), (oa ux cI cap2 U), (oa uy cI cap2 V), (oc6 r (.ref rx) (.ref ry) (nI n) rg), (oa rx cI cap X), (oa ry cI cap Y)] t.heap) 0 0 := by
  refine zIn (own := "ScaleShop$Law") (loc := [(0, .ref lw), (1, .ref u), (2, .ref r), (3, .int (nI a9)), (4, .ref r), (5, .int (nI c9))]) rfl rfl rfl rfl (fun p e s m below meth c hx hb hr hts hown hlocks hml hnm9 A hA hS hP hD hK hXN Q9 hQ9 ls hl => ?_)
  refine lv_iconst (v := 0) hx hb dX4_holdsCorner_0 rfl ?_
  refine lv_istore (lv' := [(6, .int 0), (0, .ref lw), (1, .ref u), (2, .ref r), (3, .int (nI a9)), (4, .ref r), (5, .int (nI c9))]) hx hb dX4_holdsCorner_1 hl (Nat.le_of_ble_eq_true rfl) rfl (fun ls hl => ?_)
  have hl_3 : ∀ (n9 : Nat) (k : Nat) (H : Heap) (locs : List Loc) (ls : Array Slot), m2 - k < n9 → (k ≤ m2) → (∀ j, j < k → ¬ (¬ ((X a9).toInt = (U j).toInt ∧ (Y a9).toInt = (V j).toInt) ∧ ¬ ((X c9).toInt = (U j).toInt ∧ (Y c9).toInt = (V j).toInt) ∧ ¬ (whr 3 TX TY (U j).toInt (V j).toInt).toInt = 0)) → va_P (dC, dI) classes [(oc3 lw (.ref dr) (.ref tg) (.ref wy) (.ref br) (.ref bo) (.ref aa)), (oc6 tg (.ref tx) (.ref ty) (nI 3) 1), (oa tx cI 3 TX), (oa ty cI 3 TY), (oc6 u (.ref ux) (.ref uy) (nI m2) rh), (oa ux cI cap2 U), (oa uy cI cap2 V), (oc6 r (.ref rx) (.ref ry) (nI n) rg), (oa rx cI cap X), (oa ry cI cap Y)] H → va_D A [(oc3 lw (.ref dr) (.ref tg) (.ref wy) (.ref br) (.ref bo) (.ref aa)), (oc6 tg (.ref tx) (.ref ty) (nI 3) 1), (oa tx cI 3 TX), (oa ty cI 3 TY), (oc6 u (.ref ux) (.ref uy) (nI m2) rh), (oa ux cI cap2 U), (oa uy cI cap2 V), (oc6 r (.ref rx) (.ref ry) (nI n) rg), (oa rx cI cap X), (oa ry cI cap Y)] → va_S A s.heap H locs → lv_has ls 10 [(6, .int (nI k)), (0, .ref lw), (1, .ref u), (2, .ref r), (3, .int (nI a9)), (4, .ref r), (5, .int (nI c9))] → W p l e ({ frames := 1, cells := 0, slots := 0, locals := 26 } : Room) s m ([.ref lw, .ref u, .ref r, .int (nI a9), .ref r, .int (nI c9)] : List Value).toArray below meth c H locs 0 0 Q9 (F0 m 3 ls []) := by
    intro n9
    induction n9 with
    | zero => intro k H locs ls hm; exact absurd hm (Nat.not_lt_zero _)
    | succ n9 ih_3 =>
      intro k H locs ls hm hk hno hP hD hS hl
      refine lv_iload hx hb dX4_holdsCorner_3 (lv_at hl 0 rfl) ?_
      refine lv_aload_n hx hb dX4_holdsCorner_5 rfl (lv_at hl 2 rfl) ?_
      refine va_get (D := (dC, dI)) (ci := 6) (v := .int (nI m2)) (C := RX7) (T := TX7) (N := 4) hx hb hts inX7 hown hK hP 4 rfl rfl 2 (Nat.le_of_ble_eq_true rfl) (hts _ mw_176) (fun _ h9 => h9) rfl dX4_holdsCorner_6 ?_
      have b9_2 : zlt (k) := show k < 2147483648 by omega
      have b9_3 : zlt (m2) := show m2 < 2147483648 by omega
      refine lv_icmp_ge (tgt := 99) hx hb dX4_holdsCorner_9 rfl (fun c_1 => ?_) (fun c_1 => ?_)
      · have c_1 : ((m2 : Nat) : Int) ≤ ((k : Nat) : Int) := zc_le (nI_toInt b9_3) (nI_toInt b9_2) c_1
        refine lv_iconst (v := 0) hx hb dX4_holdsCorner_99 rfl ?_
        obtain ⟨hP9, hD9⟩ := zu_sub (wc := [_, _, _, _, _, _, _, _, _, _]) hP hD [true, true, true, true, true, true, true, true, true, true] rfl rfl
        rw [hQ9]
        exact W.zret (ty := .boolean) (v := 0) hx hb hr (rfl) (fun t ht hW => ⟨⟨congrArg (fun z => Outcome.returned (some (Value.int z))) (show (0 : Int32) = pI (∃ j7, j7 < m2 ∧ ¬ ((X a9).toInt = (U j7).toInt ∧ (Y a9).toInt = (V j7).toInt) ∧ ¬ ((X c9).toInt = (U j7).toInt ∧ (Y c9).toInt = (V j7).toInt) ∧ ¬ (whr 3 TX TY (U j7).toInt (V j7).toInt).toInt = 0) from (zp_f (fun ⟨j, hj, h⟩ => hno j (by omega) h)).symm), by rw [ht]; exact hP9, hD9⟩, hS.F ht⟩) hS.2.2 dX4_holdsCorner_100
      · have c_1 : ((k : Nat) : Int) < ((m2 : Nat) : Int) := zc_nle (nI_toInt b9_3) (nI_toInt b9_2) c_1
        refine lv_aload_n hx hb dX4_holdsCorner_12 rfl (lv_at hl 2 rfl) ?_
        refine va_get (D := (dC, dI)) (ci := 6) (v := .ref ux) (C := RX7) (T := TX7) (N := 4) hx hb hts inX7 hown hK hP 4 rfl rfl 0 (Nat.le_of_ble_eq_true rfl) (hts _ mw_163) (fun _ h9 => h9) rfl dX4_holdsCorner_13 ?_
        refine lv_iload hx hb dX4_holdsCorner_16 (lv_at hl 0 rfl) ?_
        have b9_4 : k < cap2 := by omega
        have b9_5 : zlt (cap2) := show cap2 < 2147483648 by omega
        refine z_iald hx hb hK hP 5 0 rfl rfl (e := k) rfl b9_4 b9_5 dX4_holdsCorner_18 ?_
        refine lv_istore (lv' := [(7, .int (U k)), (6, .int (nI k)), (0, .ref lw), (1, .ref u), (2, .ref r), (3, .int (nI a9)), (4, .ref r), (5, .int (nI c9))]) hx hb dX4_holdsCorner_19 hl (Nat.le_of_ble_eq_true rfl) rfl (fun ls hl => ?_)
        refine lv_aload_n hx hb dX4_holdsCorner_21 rfl (lv_at hl 3 rfl) ?_
        refine va_get (D := (dC, dI)) (ci := 6) (v := .ref uy) (C := RX7) (T := TX7) (N := 4) hx hb hts inX7 hown hK hP 4 rfl rfl 1 (Nat.le_of_ble_eq_true rfl) (hts _ mw_170) (fun _ h9 => h9) rfl dX4_holdsCorner_22 ?_
        refine lv_iload hx hb dX4_holdsCorner_25 (lv_at hl 1 rfl) ?_
        refine z_iald hx hb hK hP 6 0 rfl rfl (e := k) rfl b9_4 b9_5 dX4_holdsCorner_27 ?_
        refine lv_istore (lv' := [(8, .int (V k)), (7, .int (U k)), (6, .int (nI k)), (0, .ref lw), (1, .ref u), (2, .ref r), (3, .int (nI a9)), (4, .ref r), (5, .int (nI c9))]) hx hb dX4_holdsCorner_28 hl (Nat.le_of_ble_eq_true rfl) rfl (fun ls hl => ?_)
        refine lv_aload_n hx hb dX4_holdsCorner_30 rfl (lv_at hl 5 rfl) ?_
        refine lv_ifnull hx hb dX4_holdsCorner_31 ?_
        refine lv_aload_n hx hb dX4_holdsCorner_34 rfl (lv_at hl 5 rfl) ?_
        refine lv_iload_n hx hb dX4_holdsCorner_35 rfl (lv_at hl 6 rfl) ?_
        refine lv_iload hx hb dX4_holdsCorner_36 (lv_at hl 1 rfl) ?_
        refine lv_iload hx hb dX4_holdsCorner_38 (lv_at hl 0 rfl) ?_
        obtain ⟨hPc, hDc, hFc, hI1⟩ := zi_sub (wc := [_, _, _]) hP hD hS hA [7, 8, 9] rfl rfl
        refine zcall (st1 := [.int (pI ((X a9).toInt = (U k).toInt ∧ (Y a9).toInt = (V k).toInt))]) (va_runV (As := [.int (nI a9), .int (U k), .int (V k)]) (rest := []) ⟨hx, hb, hml, hown, hts⟩ (k_Row_isCorner l dC dI cI cZ cF H.size r rx ry n cap X Y rg a9 (U k) (V k) (by first | with_reducible assumption | omega) (by first | with_reducible assumption | omega) (by first | with_reducible assumption | omega)) (csV_47 hts rfl rfl ⟨Nat.le_of_ble_eq_true rfl, Nat.le_of_ble_eq_true rfl⟩) (zPV2 (q0 := 0) (ci := 6) hPc hDc hK hXN rfl rfl) rfl rfl hl.1 rfl (lv_room (Nat.le_of_ble_eq_true rfl)) dX4_holdsCorner_40 ⟨Nat.le_of_ble_eq_true rfl, Nat.le_of_ble_eq_true rfl⟩) hS hFc hFc rfl (fun t H locs ht hB hk1 hS => ?_)
        obtain ⟨hP1, hD1⟩ := hB
        rw [ht] at hP1
        replace hP := z0 hP hD hk1 hP1 hI1
        clear hk1 hPc hDc hFc hP1 hD1 ht hI1
        refine lv_if_ne (tgt := 65) hx hb dX4_holdsCorner_43 rfl (fun c_6 => ?_) (fun c_6 => ?_)
        · have c_6 : (X a9).toInt = (U k).toInt ∧ (Y a9).toInt = (V k).toInt := zp_1 c_6
          refine lv_iconst (v := 1) hx hb dX4_holdsCorner_65 rfl ?_
          refine lv_goto (tgt := 70) hx hb dX4_holdsCorner_66 rfl ?_
          refine lv_istore (lv' := [(9, .int 1), (8, .int (V k)), (7, .int (U k)), (6, .int (nI k)), (0, .ref lw), (1, .ref u), (2, .ref r), (3, .int (nI a9)), (4, .ref r), (5, .int (nI c9))]) hx hb dX4_holdsCorner_70 hl (Nat.le_of_ble_eq_true rfl) rfl (fun ls hl => ?_)
          refine lv_iload hx hb dX4_holdsCorner_72 (lv_at hl 0 rfl) ?_
          refine lv_if_ne (tgt := 93) hx hb dX4_holdsCorner_74 rfl (fun c_7 => ?_) (fun c_7 => ?_)
          · refine lv_iinc (v := nI (k + 1)) (lv' := [(6, .int (nI (k + 1))), (9, .int 1), (8, .int (V k)), (7, .int (U k)), (0, .ref lw), (1, .ref u), (2, .ref r), (3, .int (nI a9)), (4, .ref r), (5, .int (nI c9))]) hx hb dX4_holdsCorner_93 hl (k := 3) rfl (nI_add k 1) (Nat.le_of_ble_eq_true rfl) rfl (fun ls hl => ?_)
            refine lv_goto (tgt := 3) hx hb dX4_holdsCorner_96 rfl ?_
            exact ih_3 (k + 1) H locs ls (by first | with_reducible assumption | omega) (by first | with_reducible assumption | omega) (by intro j hj; rcases Nat.lt_or_ge j k with h | h; exact hno j h; rw [show j = k by omega]; first | exact fun h => absurd (by first | with_reducible assumption | assumption) h.1 | exact fun h => absurd (by first | with_reducible assumption | assumption) h.2.1 | exact fun h => absurd (by first | with_reducible assumption | assumption) h.2.2) hP hD hS (lv_sub hl [0, 4, 5, 6, 7, 8, 9] rfl)
          · exact absurd c_7 (by decide)
        · have c_6 : ¬ ((X a9).toInt = (U k).toInt ∧ (Y a9).toInt = (V k).toInt) := zp_0 c_6
          refine lv_aload hx hb dX4_holdsCorner_46 (lv_at hl 7 rfl) ?_
          refine lv_ifnull hx hb dX4_holdsCorner_48 ?_
          refine lv_aload hx hb dX4_holdsCorner_51 (lv_at hl 7 rfl) ?_
          refine lv_iload hx hb dX4_holdsCorner_53 (lv_at hl 8 rfl) ?_
          refine lv_iload hx hb dX4_holdsCorner_55 (lv_at hl 1 rfl) ?_
          refine lv_iload hx hb dX4_holdsCorner_57 (lv_at hl 0 rfl) ?_
          obtain ⟨hPc, hDc, hFc, hI1⟩ := zi_sub (wc := [_, _, _]) hP hD hS hA [7, 8, 9] rfl rfl
          refine zcall (st1 := [.int (pI ((X c9).toInt = (U k).toInt ∧ (Y c9).toInt = (V k).toInt))]) (va_runV (As := [.int (nI c9), .int (U k), .int (V k)]) (rest := []) ⟨hx, hb, hml, hown, hts⟩ (k_Row_isCorner l dC dI cI cZ cF H.size r rx ry n cap X Y rg c9 (U k) (V k) (by first | with_reducible assumption | omega) (by first | with_reducible assumption | omega) (by first | with_reducible assumption | omega)) (csV_47 hts rfl rfl ⟨Nat.le_of_ble_eq_true rfl, Nat.le_of_ble_eq_true rfl⟩) (zPV2 (q0 := 0) (ci := 6) hPc hDc hK hXN rfl rfl) rfl rfl hl.1 rfl (lv_room (Nat.le_of_ble_eq_true rfl)) dX4_holdsCorner_59 ⟨Nat.le_of_ble_eq_true rfl, Nat.le_of_ble_eq_true rfl⟩) hS hFc hFc rfl (fun t H locs ht hB hk1 hS => ?_)
          obtain ⟨hP1, hD1⟩ := hB
          rw [ht] at hP1
          replace hP := z0 hP hD hk1 hP1 hI1
          clear hk1 hPc hDc hFc hP1 hD1 ht hI1
          refine lv_if_eq (tgt := 69) hx hb dX4_holdsCorner_62 rfl (fun c_8 => ?_) (fun c_8 => ?_)
          · have c_8 : ¬ ((X c9).toInt = (U k).toInt ∧ (Y c9).toInt = (V k).toInt) := zp_0 c_8
            refine lv_iconst (v := 0) hx hb dX4_holdsCorner_69 rfl ?_
            refine lv_istore (lv' := [(9, .int 0), (8, .int (V k)), (7, .int (U k)), (6, .int (nI k)), (0, .ref lw), (1, .ref u), (2, .ref r), (3, .int (nI a9)), (4, .ref r), (5, .int (nI c9))]) hx hb dX4_holdsCorner_70 hl (Nat.le_of_ble_eq_true rfl) rfl (fun ls hl => ?_)
            refine lv_iload hx hb dX4_holdsCorner_72 (lv_at hl 0 rfl) ?_
            refine lv_if_ne (tgt := 93) hx hb dX4_holdsCorner_74 rfl (fun c_9 => ?_) (fun c_9 => ?_)
            · exact absurd (by decide) c_9
            · refine lv_aload_n hx hb dX4_holdsCorner_77 rfl (lv_at hl 4 rfl) ?_
              refine va_get (D := (dC, dI)) (ci := 3) (v := .ref tg) (C := RX4) (T := TX4) (N := 6) hx hb hts inX4 hown hK hP 0 rfl rfl 1 (Nat.le_of_ble_eq_true rfl) (hts _ mw_221) (fun _ h9 => h9) rfl dX4_holdsCorner_78 ?_
              refine lv_iload hx hb dX4_holdsCorner_81 (lv_at hl 2 rfl) ?_
              refine lv_iload hx hb dX4_holdsCorner_83 (lv_at hl 1 rfl) ?_
              obtain ⟨hPc, hDc, hFc, hI1⟩ := zi_sub (wc := [_, _, _]) hP hD hS hA [1, 2, 3] rfl rfl
              refine zcall (st1 := [.int (whr 3 TX TY (U k).toInt (V k).toInt)]) (va_runV (As := [.int (U k), .int (V k)]) (rest := []) ⟨hx, hb, hml, hown, hts⟩ (k_Row_where l dC dI cI cZ cF H.size tg tx ty 3 3 TX TY 1 (U k) (V k) (by first | with_reducible assumption | omega) (by first | with_reducible assumption | omega) (hpt) ((hq k (by first | with_reducible assumption | omega)).1) ((hq k (by first | with_reducible assumption | omega)).2)) (csV_38 hts rfl rfl ⟨Nat.le_of_ble_eq_true rfl, Nat.le_of_ble_eq_true rfl⟩) (zPV2 (q0 := 0) (ci := 6) hPc hDc hK hXN rfl rfl) rfl rfl hl.1 rfl (lv_room (Nat.le_of_ble_eq_true rfl)) dX4_holdsCorner_85 ⟨Nat.le_of_ble_eq_true rfl, Nat.le_of_ble_eq_true rfl⟩) hS hFc hFc rfl (fun t H locs ht hB hk1 hS => ?_)
              obtain ⟨hP1, hD1⟩ := hB
              rw [ht] at hP1
              replace hP := z0 hP hD hk1 hP1 hI1
              clear hk1 hPc hDc hFc hP1 hD1 ht hI1
              refine lv_if_eq (tgt := 93) hx hb dX4_holdsCorner_88 rfl (fun c_10 => ?_) (fun c_10 => ?_)
              · have c_10 : (whr 3 TX TY (U k).toInt (V k).toInt).toInt = 0 := zc_eq rfl rfl c_10
                refine lv_iinc (v := nI (k + 1)) (lv' := [(6, .int (nI (k + 1))), (9, .int 0), (8, .int (V k)), (7, .int (U k)), (0, .ref lw), (1, .ref u), (2, .ref r), (3, .int (nI a9)), (4, .ref r), (5, .int (nI c9))]) hx hb dX4_holdsCorner_93 hl (k := 3) rfl (nI_add k 1) (Nat.le_of_ble_eq_true rfl) rfl (fun ls hl => ?_)
                refine lv_goto (tgt := 3) hx hb dX4_holdsCorner_96 rfl ?_
                exact ih_3 (k + 1) H locs ls (by first | with_reducible assumption | omega) (by first | with_reducible assumption | omega) (by intro j hj; rcases Nat.lt_or_ge j k with h | h; exact hno j h; rw [show j = k by omega]; first | exact fun h => absurd (by first | with_reducible assumption | assumption) h.1 | exact fun h => absurd (by first | with_reducible assumption | assumption) h.2.1 | exact fun h => absurd (by first | with_reducible assumption | assumption) h.2.2) hP hD hS (lv_sub hl [0, 4, 5, 6, 7, 8, 9] rfl)
              · have c_10 : ¬ (whr 3 TX TY (U k).toInt (V k).toInt).toInt = 0 := zc_ne rfl rfl c_10
                refine lv_iconst (v := 1) hx hb dX4_holdsCorner_91 rfl ?_
                obtain ⟨hP9, hD9⟩ := zu_sub (wc := [_, _, _, _, _, _, _, _, _, _]) hP hD [true, true, true, true, true, true, true, true, true, true] rfl rfl
                rw [hQ9]
                exact W.zret (ty := .boolean) (v := 1) hx hb hr (rfl) (fun t ht hW => ⟨⟨congrArg (fun z => Outcome.returned (some (Value.int z))) (show (1 : Int32) = pI (∃ j7, j7 < m2 ∧ ¬ ((X a9).toInt = (U j7).toInt ∧ (Y a9).toInt = (V j7).toInt) ∧ ¬ ((X c9).toInt = (U j7).toInt ∧ (Y c9).toInt = (V j7).toInt) ∧ ¬ (whr 3 TX TY (U j7).toInt (V j7).toInt).toInt = 0) from (zp_t (⟨k, by omega, by assumption, by assumption, by assumption⟩)).symm), by rw [ht]; exact hP9, hD9⟩, hS.F ht⟩) hS.2.2 dX4_holdsCorner_92
          · have c_8 : (X c9).toInt = (U k).toInt ∧ (Y c9).toInt = (V k).toInt := zp_1 c_8
            refine lv_iconst (v := 1) hx hb dX4_holdsCorner_65 rfl ?_
            refine lv_goto (tgt := 70) hx hb dX4_holdsCorner_66 rfl ?_
            refine lv_istore (lv' := [(9, .int 1), (8, .int (V k)), (7, .int (U k)), (6, .int (nI k)), (0, .ref lw), (1, .ref u), (2, .ref r), (3, .int (nI a9)), (4, .ref r), (5, .int (nI c9))]) hx hb dX4_holdsCorner_70 hl (Nat.le_of_ble_eq_true rfl) rfl (fun ls hl => ?_)
            refine lv_iload hx hb dX4_holdsCorner_72 (lv_at hl 0 rfl) ?_
            refine lv_if_ne (tgt := 93) hx hb dX4_holdsCorner_74 rfl (fun c_11 => ?_) (fun c_11 => ?_)
            · refine lv_iinc (v := nI (k + 1)) (lv' := [(6, .int (nI (k + 1))), (9, .int 1), (8, .int (V k)), (7, .int (U k)), (0, .ref lw), (1, .ref u), (2, .ref r), (3, .int (nI a9)), (4, .ref r), (5, .int (nI c9))]) hx hb dX4_holdsCorner_93 hl (k := 3) rfl (nI_add k 1) (Nat.le_of_ble_eq_true rfl) rfl (fun ls hl => ?_)
              refine lv_goto (tgt := 3) hx hb dX4_holdsCorner_96 rfl ?_
              exact ih_3 (k + 1) H locs ls (by first | with_reducible assumption | omega) (by first | with_reducible assumption | omega) (by intro j hj; rcases Nat.lt_or_ge j k with h | h; exact hno j h; rw [show j = k by omega]; first | exact fun h => absurd (by first | with_reducible assumption | assumption) h.1 | exact fun h => absurd (by first | with_reducible assumption | assumption) h.2.1 | exact fun h => absurd (by first | with_reducible assumption | assumption) h.2.2) hP hD hS (lv_sub hl [0, 4, 5, 6, 7, 8, 9] rfl)
            · exact absurd c_11 (by decide)
  exact hl_3 _ 0 s.heap [] ls (Nat.lt_succ_self _) (by first | with_reducible assumption | omega) (by intro j hj; omega) hP hD hS (lv_sub hl [0, 1, 2, 3, 4, 5, 6] rfl)
set_option maxHeartbeats 4000000 in
set_option maxRecDepth 100000 in
theorem k_Law_holdsCorner_rn (l : Launch) (dC : Nat → ClassId) (dI : Nat → Nat → Nat) (cI cZ cF : ClassId) (sz : Nat) (lw : Nat) (dr : Nat) (tg : Nat) (wy : Nat) (br : Nat) (bo : Nat) (aa : Nat) (tx : Nat) (ty : Nat) (TX : Nat → Int32) (TY : Nat → Int32) (u : Nat) (ux : Nat) (uy : Nat) (m2 : Nat) (cap2 : Nat) (U : Nat → Int32) (V : Nat → Int32) (rh : Int32) (r : Nat) (rx : Nat) (ry : Nat) (n : Nat) (cap : Nat) (X : Nat → Int32) (Y : Nat → Int32) (rg : Int32) (a9 : Nat) (c9 : Nat) (hn : n ≤ cap) (hcap : cap ≤ 1000) (hm : m2 ≤ cap2) (hcap2 : cap2 ≤ 1000) (hq : pls m2 U V) (hpt : pls 3 TX TY) (ha : a9 < n) : zM l yX4_holdsCorner cX4_holdsCorner 10 (some .boolean) ({ frames := 1, cells := 0, slots := 0, locals := 26 } : Room) [.ref lw, .ref u, .ref r, .int (nI a9), .null, .int (nI c9)] (dC, dI) (zTy cI cZ cF) [(oc3 lw (.ref dr) (.ref tg) (.ref wy) (.ref br) (.ref bo) (.ref aa)), (oc6 tg (.ref tx) (.ref ty) (nI 3) 1), (oa tx cI 3 TX), (oa ty cI 3 TY), (oc6 u (.ref ux) (.ref uy) (nI m2) rh), (oa ux cI cap2 U), (oa uy cI cap2 V), (oc6 r (.ref rx) (.ref ry) (nI n) rg), (oa rx cI cap X), (oa ry cI cap Y)] sz (some (.int (pI (∃ j7, j7 < m2 ∧ ¬ ((X a9).toInt = (U j7).toInt ∧ (Y a9).toInt = (V j7).toInt) ∧ ¬ (whr 3 TX TY (U j7).toInt (V j7).toInt).toInt = 0)))) (fun A t => zPD (dC, dI) classes A [(oc3 lw (.ref dr) (.ref tg) (.ref wy) (.ref br) (.ref bo) (.ref aa)), (oc6 tg (.ref tx) (.ref ty) (nI 3) 1), (oa tx cI 3 TX), (oa ty cI 3 TY), (oc6 u (.ref ux) (.ref uy) (nI m2) rh), (oa ux cI cap2 U), (oa uy cI cap2 V), (oc6 r (.ref rx) (.ref ry) (nI n) rg), (oa rx cI cap X), (oa ry cI cap Y)] t.heap) 0 0 := by
  refine zIn (own := "ScaleShop$Law") (loc := [(0, .ref lw), (1, .ref u), (2, .ref r), (3, .int (nI a9)), (4, .null), (5, .int (nI c9))]) rfl rfl rfl rfl (fun p e s m below meth c hx hb hr hts hown hlocks hml hnm9 A hA hS hP hD hK hXN Q9 hQ9 ls hl => ?_)
  refine lv_iconst (v := 0) hx hb dX4_holdsCorner_0 rfl ?_
  refine lv_istore (lv' := [(6, .int 0), (0, .ref lw), (1, .ref u), (2, .ref r), (3, .int (nI a9)), (4, .null), (5, .int (nI c9))]) hx hb dX4_holdsCorner_1 hl (Nat.le_of_ble_eq_true rfl) rfl (fun ls hl => ?_)
  have hl_3 : ∀ (n9 : Nat) (k : Nat) (H : Heap) (locs : List Loc) (ls : Array Slot), m2 - k < n9 → (k ≤ m2) → (∀ j, j < k → ¬ (¬ ((X a9).toInt = (U j).toInt ∧ (Y a9).toInt = (V j).toInt) ∧ ¬ (whr 3 TX TY (U j).toInt (V j).toInt).toInt = 0)) → va_P (dC, dI) classes [(oc3 lw (.ref dr) (.ref tg) (.ref wy) (.ref br) (.ref bo) (.ref aa)), (oc6 tg (.ref tx) (.ref ty) (nI 3) 1), (oa tx cI 3 TX), (oa ty cI 3 TY), (oc6 u (.ref ux) (.ref uy) (nI m2) rh), (oa ux cI cap2 U), (oa uy cI cap2 V), (oc6 r (.ref rx) (.ref ry) (nI n) rg), (oa rx cI cap X), (oa ry cI cap Y)] H → va_D A [(oc3 lw (.ref dr) (.ref tg) (.ref wy) (.ref br) (.ref bo) (.ref aa)), (oc6 tg (.ref tx) (.ref ty) (nI 3) 1), (oa tx cI 3 TX), (oa ty cI 3 TY), (oc6 u (.ref ux) (.ref uy) (nI m2) rh), (oa ux cI cap2 U), (oa uy cI cap2 V), (oc6 r (.ref rx) (.ref ry) (nI n) rg), (oa rx cI cap X), (oa ry cI cap Y)] → va_S A s.heap H locs → lv_has ls 10 [(6, .int (nI k)), (0, .ref lw), (1, .ref u), (2, .ref r), (3, .int (nI a9)), (4, .null), (5, .int (nI c9))] → W p l e ({ frames := 1, cells := 0, slots := 0, locals := 26 } : Room) s m ([.ref lw, .ref u, .ref r, .int (nI a9), .null, .int (nI c9)] : List Value).toArray below meth c H locs 0 0 Q9 (F0 m 3 ls []) := by
    intro n9
    induction n9 with
    | zero => intro k H locs ls hm; exact absurd hm (Nat.not_lt_zero _)
    | succ n9 ih_3 =>
      intro k H locs ls hm hk hno hP hD hS hl
      refine lv_iload hx hb dX4_holdsCorner_3 (lv_at hl 0 rfl) ?_
      refine lv_aload_n hx hb dX4_holdsCorner_5 rfl (lv_at hl 2 rfl) ?_
      refine va_get (D := (dC, dI)) (ci := 6) (v := .int (nI m2)) (C := RX7) (T := TX7) (N := 4) hx hb hts inX7 hown hK hP 4 rfl rfl 2 (Nat.le_of_ble_eq_true rfl) (hts _ mw_176) (fun _ h9 => h9) rfl dX4_holdsCorner_6 ?_
      have b9_2 : zlt (k) := show k < 2147483648 by omega
      have b9_3 : zlt (m2) := show m2 < 2147483648 by omega
      refine lv_icmp_ge (tgt := 99) hx hb dX4_holdsCorner_9 rfl (fun c_1 => ?_) (fun c_1 => ?_)
      · have c_1 : ((m2 : Nat) : Int) ≤ ((k : Nat) : Int) := zc_le (nI_toInt b9_3) (nI_toInt b9_2) c_1
        refine lv_iconst (v := 0) hx hb dX4_holdsCorner_99 rfl ?_
        obtain ⟨hP9, hD9⟩ := zu_sub (wc := [_, _, _, _, _, _, _, _, _, _]) hP hD [true, true, true, true, true, true, true, true, true, true] rfl rfl
        rw [hQ9]
        exact W.zret (ty := .boolean) (v := 0) hx hb hr (rfl) (fun t ht hW => ⟨⟨congrArg (fun z => Outcome.returned (some (Value.int z))) (show (0 : Int32) = pI (∃ j7, j7 < m2 ∧ ¬ ((X a9).toInt = (U j7).toInt ∧ (Y a9).toInt = (V j7).toInt) ∧ ¬ (whr 3 TX TY (U j7).toInt (V j7).toInt).toInt = 0) from (zp_f (fun ⟨j, hj, h⟩ => hno j (by omega) h)).symm), by rw [ht]; exact hP9, hD9⟩, hS.F ht⟩) hS.2.2 dX4_holdsCorner_100
      · have c_1 : ((k : Nat) : Int) < ((m2 : Nat) : Int) := zc_nle (nI_toInt b9_3) (nI_toInt b9_2) c_1
        refine lv_aload_n hx hb dX4_holdsCorner_12 rfl (lv_at hl 2 rfl) ?_
        refine va_get (D := (dC, dI)) (ci := 6) (v := .ref ux) (C := RX7) (T := TX7) (N := 4) hx hb hts inX7 hown hK hP 4 rfl rfl 0 (Nat.le_of_ble_eq_true rfl) (hts _ mw_163) (fun _ h9 => h9) rfl dX4_holdsCorner_13 ?_
        refine lv_iload hx hb dX4_holdsCorner_16 (lv_at hl 0 rfl) ?_
        have b9_4 : k < cap2 := by omega
        have b9_5 : zlt (cap2) := show cap2 < 2147483648 by omega
        refine z_iald hx hb hK hP 5 0 rfl rfl (e := k) rfl b9_4 b9_5 dX4_holdsCorner_18 ?_
        refine lv_istore (lv' := [(7, .int (U k)), (6, .int (nI k)), (0, .ref lw), (1, .ref u), (2, .ref r), (3, .int (nI a9)), (4, .null), (5, .int (nI c9))]) hx hb dX4_holdsCorner_19 hl (Nat.le_of_ble_eq_true rfl) rfl (fun ls hl => ?_)
        refine lv_aload_n hx hb dX4_holdsCorner_21 rfl (lv_at hl 3 rfl) ?_
        refine va_get (D := (dC, dI)) (ci := 6) (v := .ref uy) (C := RX7) (T := TX7) (N := 4) hx hb hts inX7 hown hK hP 4 rfl rfl 1 (Nat.le_of_ble_eq_true rfl) (hts _ mw_170) (fun _ h9 => h9) rfl dX4_holdsCorner_22 ?_
        refine lv_iload hx hb dX4_holdsCorner_25 (lv_at hl 1 rfl) ?_
        refine z_iald hx hb hK hP 6 0 rfl rfl (e := k) rfl b9_4 b9_5 dX4_holdsCorner_27 ?_
        refine lv_istore (lv' := [(8, .int (V k)), (7, .int (U k)), (6, .int (nI k)), (0, .ref lw), (1, .ref u), (2, .ref r), (3, .int (nI a9)), (4, .null), (5, .int (nI c9))]) hx hb dX4_holdsCorner_28 hl (Nat.le_of_ble_eq_true rfl) rfl (fun ls hl => ?_)
        refine lv_aload_n hx hb dX4_holdsCorner_30 rfl (lv_at hl 5 rfl) ?_
        refine lv_ifnull hx hb dX4_holdsCorner_31 ?_
        refine lv_aload_n hx hb dX4_holdsCorner_34 rfl (lv_at hl 5 rfl) ?_
        refine lv_iload_n hx hb dX4_holdsCorner_35 rfl (lv_at hl 6 rfl) ?_
        refine lv_iload hx hb dX4_holdsCorner_36 (lv_at hl 1 rfl) ?_
        refine lv_iload hx hb dX4_holdsCorner_38 (lv_at hl 0 rfl) ?_
        obtain ⟨hPc, hDc, hFc, hI1⟩ := zi_sub (wc := [_, _, _]) hP hD hS hA [7, 8, 9] rfl rfl
        refine zcall (st1 := [.int (pI ((X a9).toInt = (U k).toInt ∧ (Y a9).toInt = (V k).toInt))]) (va_runV (As := [.int (nI a9), .int (U k), .int (V k)]) (rest := []) ⟨hx, hb, hml, hown, hts⟩ (k_Row_isCorner l dC dI cI cZ cF H.size r rx ry n cap X Y rg a9 (U k) (V k) (by first | with_reducible assumption | omega) (by first | with_reducible assumption | omega) (by first | with_reducible assumption | omega)) (csV_47 hts rfl rfl ⟨Nat.le_of_ble_eq_true rfl, Nat.le_of_ble_eq_true rfl⟩) (zPV2 (q0 := 0) (ci := 6) hPc hDc hK hXN rfl rfl) rfl rfl hl.1 rfl (lv_room (Nat.le_of_ble_eq_true rfl)) dX4_holdsCorner_40 ⟨Nat.le_of_ble_eq_true rfl, Nat.le_of_ble_eq_true rfl⟩) hS hFc hFc rfl (fun t H locs ht hB hk1 hS => ?_)
        obtain ⟨hP1, hD1⟩ := hB
        rw [ht] at hP1
        replace hP := z0 hP hD hk1 hP1 hI1
        clear hk1 hPc hDc hFc hP1 hD1 ht hI1
        refine lv_if_ne (tgt := 65) hx hb dX4_holdsCorner_43 rfl (fun c_6 => ?_) (fun c_6 => ?_)
        · have c_6 : (X a9).toInt = (U k).toInt ∧ (Y a9).toInt = (V k).toInt := zp_1 c_6
          refine lv_iconst (v := 1) hx hb dX4_holdsCorner_65 rfl ?_
          refine lv_goto (tgt := 70) hx hb dX4_holdsCorner_66 rfl ?_
          refine lv_istore (lv' := [(9, .int 1), (8, .int (V k)), (7, .int (U k)), (6, .int (nI k)), (0, .ref lw), (1, .ref u), (2, .ref r), (3, .int (nI a9)), (4, .null), (5, .int (nI c9))]) hx hb dX4_holdsCorner_70 hl (Nat.le_of_ble_eq_true rfl) rfl (fun ls hl => ?_)
          refine lv_iload hx hb dX4_holdsCorner_72 (lv_at hl 0 rfl) ?_
          refine lv_if_ne (tgt := 93) hx hb dX4_holdsCorner_74 rfl (fun c_7 => ?_) (fun c_7 => ?_)
          · refine lv_iinc (v := nI (k + 1)) (lv' := [(6, .int (nI (k + 1))), (9, .int 1), (8, .int (V k)), (7, .int (U k)), (0, .ref lw), (1, .ref u), (2, .ref r), (3, .int (nI a9)), (4, .null), (5, .int (nI c9))]) hx hb dX4_holdsCorner_93 hl (k := 3) rfl (nI_add k 1) (Nat.le_of_ble_eq_true rfl) rfl (fun ls hl => ?_)
            refine lv_goto (tgt := 3) hx hb dX4_holdsCorner_96 rfl ?_
            exact ih_3 (k + 1) H locs ls (by first | with_reducible assumption | omega) (by first | with_reducible assumption | omega) (by intro j hj; rcases Nat.lt_or_ge j k with h | h; exact hno j h; rw [show j = k by omega]; first | exact fun h => absurd (by first | with_reducible assumption | assumption) h.1 | exact fun h => absurd (by first | with_reducible assumption | assumption) h.2) hP hD hS (lv_sub hl [0, 4, 5, 6, 7, 8, 9] rfl)
          · exact absurd c_7 (by decide)
        · have c_6 : ¬ ((X a9).toInt = (U k).toInt ∧ (Y a9).toInt = (V k).toInt) := zp_0 c_6
          refine lv_aloadN hx hb dX4_holdsCorner_46 (lv_at hl 7 rfl) ?_
          refine lv_ifnullN (tgt := 69) hx hb dX4_holdsCorner_48 rfl ?_
          refine lv_iconst (v := 0) hx hb dX4_holdsCorner_69 rfl ?_
          refine lv_istore (lv' := [(9, .int 0), (8, .int (V k)), (7, .int (U k)), (6, .int (nI k)), (0, .ref lw), (1, .ref u), (2, .ref r), (3, .int (nI a9)), (4, .null), (5, .int (nI c9))]) hx hb dX4_holdsCorner_70 hl (Nat.le_of_ble_eq_true rfl) rfl (fun ls hl => ?_)
          refine lv_iload hx hb dX4_holdsCorner_72 (lv_at hl 0 rfl) ?_
          refine lv_if_ne (tgt := 93) hx hb dX4_holdsCorner_74 rfl (fun c_8 => ?_) (fun c_8 => ?_)
          · exact absurd (by decide) c_8
          · refine lv_aload_n hx hb dX4_holdsCorner_77 rfl (lv_at hl 4 rfl) ?_
            refine va_get (D := (dC, dI)) (ci := 3) (v := .ref tg) (C := RX4) (T := TX4) (N := 6) hx hb hts inX4 hown hK hP 0 rfl rfl 1 (Nat.le_of_ble_eq_true rfl) (hts _ mw_221) (fun _ h9 => h9) rfl dX4_holdsCorner_78 ?_
            refine lv_iload hx hb dX4_holdsCorner_81 (lv_at hl 2 rfl) ?_
            refine lv_iload hx hb dX4_holdsCorner_83 (lv_at hl 1 rfl) ?_
            obtain ⟨hPc, hDc, hFc, hI1⟩ := zi_sub (wc := [_, _, _]) hP hD hS hA [1, 2, 3] rfl rfl
            refine zcall (st1 := [.int (whr 3 TX TY (U k).toInt (V k).toInt)]) (va_runV (As := [.int (U k), .int (V k)]) (rest := []) ⟨hx, hb, hml, hown, hts⟩ (k_Row_where l dC dI cI cZ cF H.size tg tx ty 3 3 TX TY 1 (U k) (V k) (by first | with_reducible assumption | omega) (by first | with_reducible assumption | omega) (hpt) ((hq k (by first | with_reducible assumption | omega)).1) ((hq k (by first | with_reducible assumption | omega)).2)) (csV_38 hts rfl rfl ⟨Nat.le_of_ble_eq_true rfl, Nat.le_of_ble_eq_true rfl⟩) (zPV2 (q0 := 0) (ci := 6) hPc hDc hK hXN rfl rfl) rfl rfl hl.1 rfl (lv_room (Nat.le_of_ble_eq_true rfl)) dX4_holdsCorner_85 ⟨Nat.le_of_ble_eq_true rfl, Nat.le_of_ble_eq_true rfl⟩) hS hFc hFc rfl (fun t H locs ht hB hk1 hS => ?_)
            obtain ⟨hP1, hD1⟩ := hB
            rw [ht] at hP1
            replace hP := z0 hP hD hk1 hP1 hI1
            clear hk1 hPc hDc hFc hP1 hD1 ht hI1
            refine lv_if_eq (tgt := 93) hx hb dX4_holdsCorner_88 rfl (fun c_9 => ?_) (fun c_9 => ?_)
            · have c_9 : (whr 3 TX TY (U k).toInt (V k).toInt).toInt = 0 := zc_eq rfl rfl c_9
              refine lv_iinc (v := nI (k + 1)) (lv' := [(6, .int (nI (k + 1))), (9, .int 0), (8, .int (V k)), (7, .int (U k)), (0, .ref lw), (1, .ref u), (2, .ref r), (3, .int (nI a9)), (4, .null), (5, .int (nI c9))]) hx hb dX4_holdsCorner_93 hl (k := 3) rfl (nI_add k 1) (Nat.le_of_ble_eq_true rfl) rfl (fun ls hl => ?_)
              refine lv_goto (tgt := 3) hx hb dX4_holdsCorner_96 rfl ?_
              exact ih_3 (k + 1) H locs ls (by first | with_reducible assumption | omega) (by first | with_reducible assumption | omega) (by intro j hj; rcases Nat.lt_or_ge j k with h | h; exact hno j h; rw [show j = k by omega]; first | exact fun h => absurd (by first | with_reducible assumption | assumption) h.1 | exact fun h => absurd (by first | with_reducible assumption | assumption) h.2) hP hD hS (lv_sub hl [0, 4, 5, 6, 7, 8, 9] rfl)
            · have c_9 : ¬ (whr 3 TX TY (U k).toInt (V k).toInt).toInt = 0 := zc_ne rfl rfl c_9
              refine lv_iconst (v := 1) hx hb dX4_holdsCorner_91 rfl ?_
              obtain ⟨hP9, hD9⟩ := zu_sub (wc := [_, _, _, _, _, _, _, _, _, _]) hP hD [true, true, true, true, true, true, true, true, true, true] rfl rfl
              rw [hQ9]
              exact W.zret (ty := .boolean) (v := 1) hx hb hr (rfl) (fun t ht hW => ⟨⟨congrArg (fun z => Outcome.returned (some (Value.int z))) (show (1 : Int32) = pI (∃ j7, j7 < m2 ∧ ¬ ((X a9).toInt = (U j7).toInt ∧ (Y a9).toInt = (V j7).toInt) ∧ ¬ (whr 3 TX TY (U j7).toInt (V j7).toInt).toInt = 0) from (zp_t (⟨k, by omega, by assumption, by assumption⟩)).symm), by rw [ht]; exact hP9, hD9⟩, hS.F ht⟩) hS.2.2 dX4_holdsCorner_92
  exact hl_3 _ 0 s.heap [] ls (Nat.lt_succ_self _) (by first | with_reducible assumption | omega) (by intro j hj; omega) hP hD hS (lv_sub hl [0, 1, 2, 3, 4, 5, 6] rfl)
set_option maxHeartbeats 4000000 in
set_option maxRecDepth 100000 in
theorem k_Law_holdsCorner_nr (l : Launch) (dC : Nat → ClassId) (dI : Nat → Nat → Nat) (cI cZ cF : ClassId) (sz : Nat) (lw : Nat) (dr : Nat) (tg : Nat) (wy : Nat) (br : Nat) (bo : Nat) (aa : Nat) (tx : Nat) (ty : Nat) (TX : Nat → Int32) (TY : Nat → Int32) (u : Nat) (ux : Nat) (uy : Nat) (m2 : Nat) (cap2 : Nat) (U : Nat → Int32) (V : Nat → Int32) (rh : Int32) (r : Nat) (rx : Nat) (ry : Nat) (n : Nat) (cap : Nat) (X : Nat → Int32) (Y : Nat → Int32) (rg : Int32) (a9 : Nat) (c9 : Nat) (hn : n ≤ cap) (hcap : cap ≤ 1000) (hm : m2 ≤ cap2) (hcap2 : cap2 ≤ 1000) (hq : pls m2 U V) (hpt : pls 3 TX TY) (hc9 : c9 < n) : zM l yX4_holdsCorner cX4_holdsCorner 10 (some .boolean) ({ frames := 1, cells := 0, slots := 0, locals := 26 } : Room) [.ref lw, .ref u, .null, .int (nI a9), .ref r, .int (nI c9)] (dC, dI) (zTy cI cZ cF) [(oc3 lw (.ref dr) (.ref tg) (.ref wy) (.ref br) (.ref bo) (.ref aa)), (oc6 tg (.ref tx) (.ref ty) (nI 3) 1), (oa tx cI 3 TX), (oa ty cI 3 TY), (oc6 u (.ref ux) (.ref uy) (nI m2) rh), (oa ux cI cap2 U), (oa uy cI cap2 V), (oc6 r (.ref rx) (.ref ry) (nI n) rg), (oa rx cI cap X), (oa ry cI cap Y)] sz (some (.int (pI (∃ j7, j7 < m2 ∧ ¬ ((X c9).toInt = (U j7).toInt ∧ (Y c9).toInt = (V j7).toInt) ∧ ¬ (whr 3 TX TY (U j7).toInt (V j7).toInt).toInt = 0)))) (fun A t => zPD (dC, dI) classes A [(oc3 lw (.ref dr) (.ref tg) (.ref wy) (.ref br) (.ref bo) (.ref aa)), (oc6 tg (.ref tx) (.ref ty) (nI 3) 1), (oa tx cI 3 TX), (oa ty cI 3 TY), (oc6 u (.ref ux) (.ref uy) (nI m2) rh), (oa ux cI cap2 U), (oa uy cI cap2 V), (oc6 r (.ref rx) (.ref ry) (nI n) rg), (oa rx cI cap X), (oa ry cI cap Y)] t.heap) 0 0 := by
  refine zIn (own := "ScaleShop$Law") (loc := [(0, .ref lw), (1, .ref u), (2, .null), (3, .int (nI a9)), (4, .ref r), (5, .int (nI c9))]) rfl rfl rfl rfl (fun p e s m below meth c hx hb hr hts hown hlocks hml hnm9 A hA hS hP hD hK hXN Q9 hQ9 ls hl => ?_)
  refine lv_iconst (v := 0) hx hb dX4_holdsCorner_0 rfl ?_
  refine lv_istore (lv' := [(6, .int 0), (0, .ref lw), (1, .ref u), (2, .null), (3, .int (nI a9)), (4, .ref r), (5, .int (nI c9))]) hx hb dX4_holdsCorner_1 hl (Nat.le_of_ble_eq_true rfl) rfl (fun ls hl => ?_)
  have hl_3 : ∀ (n9 : Nat) (k : Nat) (H : Heap) (locs : List Loc) (ls : Array Slot), m2 - k < n9 → (k ≤ m2) → (∀ j, j < k → ¬ (¬ ((X c9).toInt = (U j).toInt ∧ (Y c9).toInt = (V j).toInt) ∧ ¬ (whr 3 TX TY (U j).toInt (V j).toInt).toInt = 0)) → va_P (dC, dI) classes [(oc3 lw (.ref dr) (.ref tg) (.ref wy) (.ref br) (.ref bo) (.ref aa)), (oc6 tg (.ref tx) (.ref ty) (nI 3) 1), (oa tx cI 3 TX), (oa ty cI 3 TY), (oc6 u (.ref ux) (.ref uy) (nI m2) rh), (oa ux cI cap2 U), (oa uy cI cap2 V), (oc6 r (.ref rx) (.ref ry) (nI n) rg), (oa rx cI cap X), (oa ry cI cap Y)] H → va_D A [(oc3 lw (.ref dr) (.ref tg) (.ref wy) (.ref br) (.ref bo) (.ref aa)), (oc6 tg (.ref tx) (.ref ty) (nI 3) 1), (oa tx cI 3 TX), (oa ty cI 3 TY), (oc6 u (.ref ux) (.ref uy) (nI m2) rh), (oa ux cI cap2 U), (oa uy cI cap2 V), (oc6 r (.ref rx) (.ref ry) (nI n) rg), (oa rx cI cap X), (oa ry cI cap Y)] → va_S A s.heap H locs → lv_has ls 10 [(6, .int (nI k)), (0, .ref lw), (1, .ref u), (2, .null), (3, .int (nI a9)), (4, .ref r), (5, .int (nI c9))] → W p l e ({ frames := 1, cells := 0, slots := 0, locals := 26 } : Room) s m ([.ref lw, .ref u, .null, .int (nI a9), .ref r, .int (nI c9)] : List Value).toArray below meth c H locs 0 0 Q9 (F0 m 3 ls []) := by
    intro n9
    induction n9 with
    | zero => intro k H locs ls hm; exact absurd hm (Nat.not_lt_zero _)
    | succ n9 ih_3 =>
      intro k H locs ls hm hk hno hP hD hS hl
      refine lv_iload hx hb dX4_holdsCorner_3 (lv_at hl 0 rfl) ?_
      refine lv_aload_n hx hb dX4_holdsCorner_5 rfl (lv_at hl 2 rfl) ?_
      refine va_get (D := (dC, dI)) (ci := 6) (v := .int (nI m2)) (C := RX7) (T := TX7) (N := 4) hx hb hts inX7 hown hK hP 4 rfl rfl 2 (Nat.le_of_ble_eq_true rfl) (hts _ mw_176) (fun _ h9 => h9) rfl dX4_holdsCorner_6 ?_
      have b9_2 : zlt (k) := show k < 2147483648 by omega
      have b9_3 : zlt (m2) := show m2 < 2147483648 by omega
      refine lv_icmp_ge (tgt := 99) hx hb dX4_holdsCorner_9 rfl (fun c_1 => ?_) (fun c_1 => ?_)
      · have c_1 : ((m2 : Nat) : Int) ≤ ((k : Nat) : Int) := zc_le (nI_toInt b9_3) (nI_toInt b9_2) c_1
        refine lv_iconst (v := 0) hx hb dX4_holdsCorner_99 rfl ?_
        obtain ⟨hP9, hD9⟩ := zu_sub (wc := [_, _, _, _, _, _, _, _, _, _]) hP hD [true, true, true, true, true, true, true, true, true, true] rfl rfl
        rw [hQ9]
        exact W.zret (ty := .boolean) (v := 0) hx hb hr (rfl) (fun t ht hW => ⟨⟨congrArg (fun z => Outcome.returned (some (Value.int z))) (show (0 : Int32) = pI (∃ j7, j7 < m2 ∧ ¬ ((X c9).toInt = (U j7).toInt ∧ (Y c9).toInt = (V j7).toInt) ∧ ¬ (whr 3 TX TY (U j7).toInt (V j7).toInt).toInt = 0) from (zp_f (fun ⟨j, hj, h⟩ => hno j (by omega) h)).symm), by rw [ht]; exact hP9, hD9⟩, hS.F ht⟩) hS.2.2 dX4_holdsCorner_100
      · have c_1 : ((k : Nat) : Int) < ((m2 : Nat) : Int) := zc_nle (nI_toInt b9_3) (nI_toInt b9_2) c_1
        refine lv_aload_n hx hb dX4_holdsCorner_12 rfl (lv_at hl 2 rfl) ?_
        refine va_get (D := (dC, dI)) (ci := 6) (v := .ref ux) (C := RX7) (T := TX7) (N := 4) hx hb hts inX7 hown hK hP 4 rfl rfl 0 (Nat.le_of_ble_eq_true rfl) (hts _ mw_163) (fun _ h9 => h9) rfl dX4_holdsCorner_13 ?_
        refine lv_iload hx hb dX4_holdsCorner_16 (lv_at hl 0 rfl) ?_
        have b9_4 : k < cap2 := by omega
        have b9_5 : zlt (cap2) := show cap2 < 2147483648 by omega
        refine z_iald hx hb hK hP 5 0 rfl rfl (e := k) rfl b9_4 b9_5 dX4_holdsCorner_18 ?_
        refine lv_istore (lv' := [(7, .int (U k)), (6, .int (nI k)), (0, .ref lw), (1, .ref u), (2, .null), (3, .int (nI a9)), (4, .ref r), (5, .int (nI c9))]) hx hb dX4_holdsCorner_19 hl (Nat.le_of_ble_eq_true rfl) rfl (fun ls hl => ?_)
        refine lv_aload_n hx hb dX4_holdsCorner_21 rfl (lv_at hl 3 rfl) ?_
        refine va_get (D := (dC, dI)) (ci := 6) (v := .ref uy) (C := RX7) (T := TX7) (N := 4) hx hb hts inX7 hown hK hP 4 rfl rfl 1 (Nat.le_of_ble_eq_true rfl) (hts _ mw_170) (fun _ h9 => h9) rfl dX4_holdsCorner_22 ?_
        refine lv_iload hx hb dX4_holdsCorner_25 (lv_at hl 1 rfl) ?_
        refine z_iald hx hb hK hP 6 0 rfl rfl (e := k) rfl b9_4 b9_5 dX4_holdsCorner_27 ?_
        refine lv_istore (lv' := [(8, .int (V k)), (7, .int (U k)), (6, .int (nI k)), (0, .ref lw), (1, .ref u), (2, .null), (3, .int (nI a9)), (4, .ref r), (5, .int (nI c9))]) hx hb dX4_holdsCorner_28 hl (Nat.le_of_ble_eq_true rfl) rfl (fun ls hl => ?_)
        refine lv_aload_nN hx hb dX4_holdsCorner_30 rfl (lv_at hl 5 rfl) ?_
        refine lv_ifnullN (tgt := 46) hx hb dX4_holdsCorner_31 rfl ?_
        refine lv_aload hx hb dX4_holdsCorner_46 (lv_at hl 7 rfl) ?_
        refine lv_ifnull hx hb dX4_holdsCorner_48 ?_
        refine lv_aload hx hb dX4_holdsCorner_51 (lv_at hl 7 rfl) ?_
        refine lv_iload hx hb dX4_holdsCorner_53 (lv_at hl 8 rfl) ?_
        refine lv_iload hx hb dX4_holdsCorner_55 (lv_at hl 1 rfl) ?_
        refine lv_iload hx hb dX4_holdsCorner_57 (lv_at hl 0 rfl) ?_
        obtain ⟨hPc, hDc, hFc, hI1⟩ := zi_sub (wc := [_, _, _]) hP hD hS hA [7, 8, 9] rfl rfl
        refine zcall (st1 := [.int (pI ((X c9).toInt = (U k).toInt ∧ (Y c9).toInt = (V k).toInt))]) (va_runV (As := [.int (nI c9), .int (U k), .int (V k)]) (rest := []) ⟨hx, hb, hml, hown, hts⟩ (k_Row_isCorner l dC dI cI cZ cF H.size r rx ry n cap X Y rg c9 (U k) (V k) (by first | with_reducible assumption | omega) (by first | with_reducible assumption | omega) (by first | with_reducible assumption | omega)) (csV_47 hts rfl rfl ⟨Nat.le_of_ble_eq_true rfl, Nat.le_of_ble_eq_true rfl⟩) (zPV2 (q0 := 0) (ci := 6) hPc hDc hK hXN rfl rfl) rfl rfl hl.1 rfl (lv_room (Nat.le_of_ble_eq_true rfl)) dX4_holdsCorner_59 ⟨Nat.le_of_ble_eq_true rfl, Nat.le_of_ble_eq_true rfl⟩) hS hFc hFc rfl (fun t H locs ht hB hk1 hS => ?_)
        obtain ⟨hP1, hD1⟩ := hB
        rw [ht] at hP1
        replace hP := z0 hP hD hk1 hP1 hI1
        clear hk1 hPc hDc hFc hP1 hD1 ht hI1
        refine lv_if_eq (tgt := 69) hx hb dX4_holdsCorner_62 rfl (fun c_6 => ?_) (fun c_6 => ?_)
        · have c_6 : ¬ ((X c9).toInt = (U k).toInt ∧ (Y c9).toInt = (V k).toInt) := zp_0 c_6
          refine lv_iconst (v := 0) hx hb dX4_holdsCorner_69 rfl ?_
          refine lv_istore (lv' := [(9, .int 0), (8, .int (V k)), (7, .int (U k)), (6, .int (nI k)), (0, .ref lw), (1, .ref u), (2, .null), (3, .int (nI a9)), (4, .ref r), (5, .int (nI c9))]) hx hb dX4_holdsCorner_70 hl (Nat.le_of_ble_eq_true rfl) rfl (fun ls hl => ?_)
          refine lv_iload hx hb dX4_holdsCorner_72 (lv_at hl 0 rfl) ?_
          refine lv_if_ne (tgt := 93) hx hb dX4_holdsCorner_74 rfl (fun c_7 => ?_) (fun c_7 => ?_)
          · exact absurd (by decide) c_7
          · refine lv_aload_n hx hb dX4_holdsCorner_77 rfl (lv_at hl 4 rfl) ?_
            refine va_get (D := (dC, dI)) (ci := 3) (v := .ref tg) (C := RX4) (T := TX4) (N := 6) hx hb hts inX4 hown hK hP 0 rfl rfl 1 (Nat.le_of_ble_eq_true rfl) (hts _ mw_221) (fun _ h9 => h9) rfl dX4_holdsCorner_78 ?_
            refine lv_iload hx hb dX4_holdsCorner_81 (lv_at hl 2 rfl) ?_
            refine lv_iload hx hb dX4_holdsCorner_83 (lv_at hl 1 rfl) ?_
            obtain ⟨hPc, hDc, hFc, hI1⟩ := zi_sub (wc := [_, _, _]) hP hD hS hA [1, 2, 3] rfl rfl
            refine zcall (st1 := [.int (whr 3 TX TY (U k).toInt (V k).toInt)]) (va_runV (As := [.int (U k), .int (V k)]) (rest := []) ⟨hx, hb, hml, hown, hts⟩ (k_Row_where l dC dI cI cZ cF H.size tg tx ty 3 3 TX TY 1 (U k) (V k) (by first | with_reducible assumption | omega) (by first | with_reducible assumption | omega) (hpt) ((hq k (by first | with_reducible assumption | omega)).1) ((hq k (by first | with_reducible assumption | omega)).2)) (csV_38 hts rfl rfl ⟨Nat.le_of_ble_eq_true rfl, Nat.le_of_ble_eq_true rfl⟩) (zPV2 (q0 := 0) (ci := 6) hPc hDc hK hXN rfl rfl) rfl rfl hl.1 rfl (lv_room (Nat.le_of_ble_eq_true rfl)) dX4_holdsCorner_85 ⟨Nat.le_of_ble_eq_true rfl, Nat.le_of_ble_eq_true rfl⟩) hS hFc hFc rfl (fun t H locs ht hB hk1 hS => ?_)
            obtain ⟨hP1, hD1⟩ := hB
            rw [ht] at hP1
            replace hP := z0 hP hD hk1 hP1 hI1
            clear hk1 hPc hDc hFc hP1 hD1 ht hI1
            refine lv_if_eq (tgt := 93) hx hb dX4_holdsCorner_88 rfl (fun c_8 => ?_) (fun c_8 => ?_)
            · have c_8 : (whr 3 TX TY (U k).toInt (V k).toInt).toInt = 0 := zc_eq rfl rfl c_8
              refine lv_iinc (v := nI (k + 1)) (lv' := [(6, .int (nI (k + 1))), (9, .int 0), (8, .int (V k)), (7, .int (U k)), (0, .ref lw), (1, .ref u), (2, .null), (3, .int (nI a9)), (4, .ref r), (5, .int (nI c9))]) hx hb dX4_holdsCorner_93 hl (k := 3) rfl (nI_add k 1) (Nat.le_of_ble_eq_true rfl) rfl (fun ls hl => ?_)
              refine lv_goto (tgt := 3) hx hb dX4_holdsCorner_96 rfl ?_
              exact ih_3 (k + 1) H locs ls (by first | with_reducible assumption | omega) (by first | with_reducible assumption | omega) (by intro j hj; rcases Nat.lt_or_ge j k with h | h; exact hno j h; rw [show j = k by omega]; first | exact fun h => absurd (by first | with_reducible assumption | assumption) h.1 | exact fun h => absurd (by first | with_reducible assumption | assumption) h.2) hP hD hS (lv_sub hl [0, 4, 5, 6, 7, 8, 9] rfl)
            · have c_8 : ¬ (whr 3 TX TY (U k).toInt (V k).toInt).toInt = 0 := zc_ne rfl rfl c_8
              refine lv_iconst (v := 1) hx hb dX4_holdsCorner_91 rfl ?_
              obtain ⟨hP9, hD9⟩ := zu_sub (wc := [_, _, _, _, _, _, _, _, _, _]) hP hD [true, true, true, true, true, true, true, true, true, true] rfl rfl
              rw [hQ9]
              exact W.zret (ty := .boolean) (v := 1) hx hb hr (rfl) (fun t ht hW => ⟨⟨congrArg (fun z => Outcome.returned (some (Value.int z))) (show (1 : Int32) = pI (∃ j7, j7 < m2 ∧ ¬ ((X c9).toInt = (U j7).toInt ∧ (Y c9).toInt = (V j7).toInt) ∧ ¬ (whr 3 TX TY (U j7).toInt (V j7).toInt).toInt = 0) from (zp_t (⟨k, by omega, by assumption, by assumption⟩)).symm), by rw [ht]; exact hP9, hD9⟩, hS.F ht⟩) hS.2.2 dX4_holdsCorner_92
        · have c_6 : (X c9).toInt = (U k).toInt ∧ (Y c9).toInt = (V k).toInt := zp_1 c_6
          refine lv_iconst (v := 1) hx hb dX4_holdsCorner_65 rfl ?_
          refine lv_goto (tgt := 70) hx hb dX4_holdsCorner_66 rfl ?_
          refine lv_istore (lv' := [(9, .int 1), (8, .int (V k)), (7, .int (U k)), (6, .int (nI k)), (0, .ref lw), (1, .ref u), (2, .null), (3, .int (nI a9)), (4, .ref r), (5, .int (nI c9))]) hx hb dX4_holdsCorner_70 hl (Nat.le_of_ble_eq_true rfl) rfl (fun ls hl => ?_)
          refine lv_iload hx hb dX4_holdsCorner_72 (lv_at hl 0 rfl) ?_
          refine lv_if_ne (tgt := 93) hx hb dX4_holdsCorner_74 rfl (fun c_9 => ?_) (fun c_9 => ?_)
          · refine lv_iinc (v := nI (k + 1)) (lv' := [(6, .int (nI (k + 1))), (9, .int 1), (8, .int (V k)), (7, .int (U k)), (0, .ref lw), (1, .ref u), (2, .null), (3, .int (nI a9)), (4, .ref r), (5, .int (nI c9))]) hx hb dX4_holdsCorner_93 hl (k := 3) rfl (nI_add k 1) (Nat.le_of_ble_eq_true rfl) rfl (fun ls hl => ?_)
            refine lv_goto (tgt := 3) hx hb dX4_holdsCorner_96 rfl ?_
            exact ih_3 (k + 1) H locs ls (by first | with_reducible assumption | omega) (by first | with_reducible assumption | omega) (by intro j hj; rcases Nat.lt_or_ge j k with h | h; exact hno j h; rw [show j = k by omega]; first | exact fun h => absurd (by first | with_reducible assumption | assumption) h.1 | exact fun h => absurd (by first | with_reducible assumption | assumption) h.2) hP hD hS (lv_sub hl [0, 4, 5, 6, 7, 8, 9] rfl)
          · exact absurd c_9 (by decide)
  exact hl_3 _ 0 s.heap [] ls (Nat.lt_succ_self _) (by first | with_reducible assumption | omega) (by intro j hj; omega) hP hD hS (lv_sub hl [0, 1, 2, 3, 4, 5, 6] rfl)
set_option maxHeartbeats 4000000 in
set_option maxRecDepth 100000 in
theorem k_Law_holdsCorner_nn (l : Launch) (dC : Nat → ClassId) (dI : Nat → Nat → Nat) (cI cZ cF : ClassId) (sz : Nat) (lw : Nat) (dr : Nat) (tg : Nat) (wy : Nat) (br : Nat) (bo : Nat) (aa : Nat) (tx : Nat) (ty : Nat) (TX : Nat → Int32) (TY : Nat → Int32) (u : Nat) (ux : Nat) (uy : Nat) (m2 : Nat) (cap2 : Nat) (U : Nat → Int32) (V : Nat → Int32) (rh : Int32) (a9 : Nat) (c9 : Nat) (hm : m2 ≤ cap2) (hcap2 : cap2 ≤ 1000) (hq : pls m2 U V) (hpt : pls 3 TX TY) : zM l yX4_holdsCorner cX4_holdsCorner 10 (some .boolean) ({ frames := 1, cells := 0, slots := 0, locals := 26 } : Room) [.ref lw, .ref u, .null, .int (nI a9), .null, .int (nI c9)] (dC, dI) (zTy cI cZ cF) [(oc3 lw (.ref dr) (.ref tg) (.ref wy) (.ref br) (.ref bo) (.ref aa)), (oc6 tg (.ref tx) (.ref ty) (nI 3) 1), (oa tx cI 3 TX), (oa ty cI 3 TY), (oc6 u (.ref ux) (.ref uy) (nI m2) rh), (oa ux cI cap2 U), (oa uy cI cap2 V)] sz (some (.int (pI (∃ j7, j7 < m2 ∧ ¬ (whr 3 TX TY (U j7).toInt (V j7).toInt).toInt = 0)))) (fun A t => zPD (dC, dI) classes A [(oc3 lw (.ref dr) (.ref tg) (.ref wy) (.ref br) (.ref bo) (.ref aa)), (oc6 tg (.ref tx) (.ref ty) (nI 3) 1), (oa tx cI 3 TX), (oa ty cI 3 TY), (oc6 u (.ref ux) (.ref uy) (nI m2) rh), (oa ux cI cap2 U), (oa uy cI cap2 V)] t.heap) 0 0 := by
  refine zIn (own := "ScaleShop$Law") (loc := [(0, .ref lw), (1, .ref u), (2, .null), (3, .int (nI a9)), (4, .null), (5, .int (nI c9))]) rfl rfl rfl rfl (fun p e s m below meth c hx hb hr hts hown hlocks hml hnm9 A hA hS hP hD hK hXN Q9 hQ9 ls hl => ?_)
  refine lv_iconst (v := 0) hx hb dX4_holdsCorner_0 rfl ?_
  refine lv_istore (lv' := [(6, .int 0), (0, .ref lw), (1, .ref u), (2, .null), (3, .int (nI a9)), (4, .null), (5, .int (nI c9))]) hx hb dX4_holdsCorner_1 hl (Nat.le_of_ble_eq_true rfl) rfl (fun ls hl => ?_)
  have hl_3 : ∀ (n9 : Nat) (k : Nat) (H : Heap) (locs : List Loc) (ls : Array Slot), m2 - k < n9 → (k ≤ m2) → (∀ j, j < k → ¬ (¬ (whr 3 TX TY (U j).toInt (V j).toInt).toInt = 0)) → va_P (dC, dI) classes [(oc3 lw (.ref dr) (.ref tg) (.ref wy) (.ref br) (.ref bo) (.ref aa)), (oc6 tg (.ref tx) (.ref ty) (nI 3) 1), (oa tx cI 3 TX), (oa ty cI 3 TY), (oc6 u (.ref ux) (.ref uy) (nI m2) rh), (oa ux cI cap2 U), (oa uy cI cap2 V)] H → va_D A [(oc3 lw (.ref dr) (.ref tg) (.ref wy) (.ref br) (.ref bo) (.ref aa)), (oc6 tg (.ref tx) (.ref ty) (nI 3) 1), (oa tx cI 3 TX), (oa ty cI 3 TY), (oc6 u (.ref ux) (.ref uy) (nI m2) rh), (oa ux cI cap2 U), (oa uy cI cap2 V)] → va_S A s.heap H locs → lv_has ls 10 [(6, .int (nI k)), (0, .ref lw), (1, .ref u), (2, .null), (3, .int (nI a9)), (4, .null), (5, .int (nI c9))] → W p l e ({ frames := 1, cells := 0, slots := 0, locals := 26 } : Room) s m ([.ref lw, .ref u, .null, .int (nI a9), .null, .int (nI c9)] : List Value).toArray below meth c H locs 0 0 Q9 (F0 m 3 ls []) := by
    intro n9
    induction n9 with
    | zero => intro k H locs ls hm; exact absurd hm (Nat.not_lt_zero _)
    | succ n9 ih_3 =>
      intro k H locs ls hm hk hno hP hD hS hl
      refine lv_iload hx hb dX4_holdsCorner_3 (lv_at hl 0 rfl) ?_
      refine lv_aload_n hx hb dX4_holdsCorner_5 rfl (lv_at hl 2 rfl) ?_
      refine va_get (D := (dC, dI)) (ci := 6) (v := .int (nI m2)) (C := RX7) (T := TX7) (N := 4) hx hb hts inX7 hown hK hP 4 rfl rfl 2 (Nat.le_of_ble_eq_true rfl) (hts _ mw_176) (fun _ h9 => h9) rfl dX4_holdsCorner_6 ?_
      have b9_2 : zlt (k) := show k < 2147483648 by omega
      have b9_3 : zlt (m2) := show m2 < 2147483648 by omega
      refine lv_icmp_ge (tgt := 99) hx hb dX4_holdsCorner_9 rfl (fun c_1 => ?_) (fun c_1 => ?_)
      · have c_1 : ((m2 : Nat) : Int) ≤ ((k : Nat) : Int) := zc_le (nI_toInt b9_3) (nI_toInt b9_2) c_1
        refine lv_iconst (v := 0) hx hb dX4_holdsCorner_99 rfl ?_
        obtain ⟨hP9, hD9⟩ := zu_sub (wc := [_, _, _, _, _, _, _]) hP hD [true, true, true, true, true, true, true] rfl rfl
        rw [hQ9]
        exact W.zret (ty := .boolean) (v := 0) hx hb hr (rfl) (fun t ht hW => ⟨⟨congrArg (fun z => Outcome.returned (some (Value.int z))) (show (0 : Int32) = pI (∃ j7, j7 < m2 ∧ ¬ (whr 3 TX TY (U j7).toInt (V j7).toInt).toInt = 0) from (zp_f (fun ⟨j, hj, h⟩ => hno j (by omega) h)).symm), by rw [ht]; exact hP9, hD9⟩, hS.F ht⟩) hS.2.2 dX4_holdsCorner_100
      · have c_1 : ((k : Nat) : Int) < ((m2 : Nat) : Int) := zc_nle (nI_toInt b9_3) (nI_toInt b9_2) c_1
        refine lv_aload_n hx hb dX4_holdsCorner_12 rfl (lv_at hl 2 rfl) ?_
        refine va_get (D := (dC, dI)) (ci := 6) (v := .ref ux) (C := RX7) (T := TX7) (N := 4) hx hb hts inX7 hown hK hP 4 rfl rfl 0 (Nat.le_of_ble_eq_true rfl) (hts _ mw_163) (fun _ h9 => h9) rfl dX4_holdsCorner_13 ?_
        refine lv_iload hx hb dX4_holdsCorner_16 (lv_at hl 0 rfl) ?_
        have b9_4 : k < cap2 := by omega
        have b9_5 : zlt (cap2) := show cap2 < 2147483648 by omega
        refine z_iald hx hb hK hP 5 0 rfl rfl (e := k) rfl b9_4 b9_5 dX4_holdsCorner_18 ?_
        refine lv_istore (lv' := [(7, .int (U k)), (6, .int (nI k)), (0, .ref lw), (1, .ref u), (2, .null), (3, .int (nI a9)), (4, .null), (5, .int (nI c9))]) hx hb dX4_holdsCorner_19 hl (Nat.le_of_ble_eq_true rfl) rfl (fun ls hl => ?_)
        refine lv_aload_n hx hb dX4_holdsCorner_21 rfl (lv_at hl 3 rfl) ?_
        refine va_get (D := (dC, dI)) (ci := 6) (v := .ref uy) (C := RX7) (T := TX7) (N := 4) hx hb hts inX7 hown hK hP 4 rfl rfl 1 (Nat.le_of_ble_eq_true rfl) (hts _ mw_170) (fun _ h9 => h9) rfl dX4_holdsCorner_22 ?_
        refine lv_iload hx hb dX4_holdsCorner_25 (lv_at hl 1 rfl) ?_
        refine z_iald hx hb hK hP 6 0 rfl rfl (e := k) rfl b9_4 b9_5 dX4_holdsCorner_27 ?_
        refine lv_istore (lv' := [(8, .int (V k)), (7, .int (U k)), (6, .int (nI k)), (0, .ref lw), (1, .ref u), (2, .null), (3, .int (nI a9)), (4, .null), (5, .int (nI c9))]) hx hb dX4_holdsCorner_28 hl (Nat.le_of_ble_eq_true rfl) rfl (fun ls hl => ?_)
        refine lv_aload_nN hx hb dX4_holdsCorner_30 rfl (lv_at hl 5 rfl) ?_
        refine lv_ifnullN (tgt := 46) hx hb dX4_holdsCorner_31 rfl ?_
        refine lv_aloadN hx hb dX4_holdsCorner_46 (lv_at hl 7 rfl) ?_
        refine lv_ifnullN (tgt := 69) hx hb dX4_holdsCorner_48 rfl ?_
        refine lv_iconst (v := 0) hx hb dX4_holdsCorner_69 rfl ?_
        refine lv_istore (lv' := [(9, .int 0), (8, .int (V k)), (7, .int (U k)), (6, .int (nI k)), (0, .ref lw), (1, .ref u), (2, .null), (3, .int (nI a9)), (4, .null), (5, .int (nI c9))]) hx hb dX4_holdsCorner_70 hl (Nat.le_of_ble_eq_true rfl) rfl (fun ls hl => ?_)
        refine lv_iload hx hb dX4_holdsCorner_72 (lv_at hl 0 rfl) ?_
        refine lv_if_ne (tgt := 93) hx hb dX4_holdsCorner_74 rfl (fun c_6 => ?_) (fun c_6 => ?_)
        · exact absurd (by decide) c_6
        · refine lv_aload_n hx hb dX4_holdsCorner_77 rfl (lv_at hl 4 rfl) ?_
          refine va_get (D := (dC, dI)) (ci := 3) (v := .ref tg) (C := RX4) (T := TX4) (N := 6) hx hb hts inX4 hown hK hP 0 rfl rfl 1 (Nat.le_of_ble_eq_true rfl) (hts _ mw_221) (fun _ h9 => h9) rfl dX4_holdsCorner_78 ?_
          refine lv_iload hx hb dX4_holdsCorner_81 (lv_at hl 2 rfl) ?_
          refine lv_iload hx hb dX4_holdsCorner_83 (lv_at hl 1 rfl) ?_
          obtain ⟨hPc, hDc, hFc, hI1⟩ := zi_sub (wc := [_, _, _]) hP hD hS hA [1, 2, 3] rfl rfl
          refine zcall (st1 := [.int (whr 3 TX TY (U k).toInt (V k).toInt)]) (va_runV (As := [.int (U k), .int (V k)]) (rest := []) ⟨hx, hb, hml, hown, hts⟩ (k_Row_where l dC dI cI cZ cF H.size tg tx ty 3 3 TX TY 1 (U k) (V k) (by first | with_reducible assumption | omega) (by first | with_reducible assumption | omega) (hpt) ((hq k (by first | with_reducible assumption | omega)).1) ((hq k (by first | with_reducible assumption | omega)).2)) (csV_38 hts rfl rfl ⟨Nat.le_of_ble_eq_true rfl, Nat.le_of_ble_eq_true rfl⟩) (zPV2 (q0 := 0) (ci := 6) hPc hDc hK hXN rfl rfl) rfl rfl hl.1 rfl (lv_room (Nat.le_of_ble_eq_true rfl)) dX4_holdsCorner_85 ⟨Nat.le_of_ble_eq_true rfl, Nat.le_of_ble_eq_true rfl⟩) hS hFc hFc rfl (fun t H locs ht hB hk1 hS => ?_)
          obtain ⟨hP1, hD1⟩ := hB
          rw [ht] at hP1
          replace hP := z0 hP hD hk1 hP1 hI1
          clear hk1 hPc hDc hFc hP1 hD1 ht hI1
          refine lv_if_eq (tgt := 93) hx hb dX4_holdsCorner_88 rfl (fun c_7 => ?_) (fun c_7 => ?_)
          · have c_7 : (whr 3 TX TY (U k).toInt (V k).toInt).toInt = 0 := zc_eq rfl rfl c_7
            refine lv_iinc (v := nI (k + 1)) (lv' := [(6, .int (nI (k + 1))), (9, .int 0), (8, .int (V k)), (7, .int (U k)), (0, .ref lw), (1, .ref u), (2, .null), (3, .int (nI a9)), (4, .null), (5, .int (nI c9))]) hx hb dX4_holdsCorner_93 hl (k := 3) rfl (nI_add k 1) (Nat.le_of_ble_eq_true rfl) rfl (fun ls hl => ?_)
            refine lv_goto (tgt := 3) hx hb dX4_holdsCorner_96 rfl ?_
            exact ih_3 (k + 1) H locs ls (by first | with_reducible assumption | omega) (by first | with_reducible assumption | omega) (by intro j hj; rcases Nat.lt_or_ge j k with h | h; exact hno j h; rw [show j = k by omega]; first | exact fun h => absurd (by first | with_reducible assumption | assumption) h) hP hD hS (lv_sub hl [0, 4, 5, 6, 7, 8, 9] rfl)
          · have c_7 : ¬ (whr 3 TX TY (U k).toInt (V k).toInt).toInt = 0 := zc_ne rfl rfl c_7
            refine lv_iconst (v := 1) hx hb dX4_holdsCorner_91 rfl ?_
            obtain ⟨hP9, hD9⟩ := zu_sub (wc := [_, _, _, _, _, _, _]) hP hD [true, true, true, true, true, true, true] rfl rfl
            rw [hQ9]
            exact W.zret (ty := .boolean) (v := 1) hx hb hr (rfl) (fun t ht hW => ⟨⟨congrArg (fun z => Outcome.returned (some (Value.int z))) (show (1 : Int32) = pI (∃ j7, j7 < m2 ∧ ¬ (whr 3 TX TY (U j7).toInt (V j7).toInt).toInt = 0) from (zp_t (⟨k, by omega, by assumption⟩)).symm), by rw [ht]; exact hP9, hD9⟩, hS.F ht⟩) hS.2.2 dX4_holdsCorner_92
  exact hl_3 _ 0 s.heap [] ls (Nat.lt_succ_self _) (by first | with_reducible assumption | omega) (by intro j hj; omega) hP hD hS (lv_sub hl [0, 1, 2, 3, 4, 5, 6] rfl)
end
section
set_option maxHeartbeats 4000000 in
set_option maxRecDepth 100000 in
theorem k_Law_isSweptByCut (l : Launch) (dC : Nat → ClassId) (dI : Nat → Nat → Nat) (cI cZ cF : ClassId) (sz : Nat) (lw : Nat) (dr : Nat) (tg : Nat) (wy : Nat) (br : Nat) (bo : Nat) (aa : Nat) (tx : Nat) (ty : Nat) (nt : Nat) (TX : Nat → Int32) (TY : Nat → Int32) (rt : Int32) (r : Nat) (rx : Nat) (ry : Nat) (n : Nat) (cap : Nat) (X : Nat → Int32) (Y : Nat → Int32) (rg : Int32) (u : Nat) (ux : Nat) (uy : Nat) (m2 : Nat) (cap2 : Nat) (U : Nat → Int32) (V : Nat → Int32) (rh : Int32) (k : Nat) (hn : n ≤ cap) (hcap : cap ≤ 1000) (hp : pls n X Y) (hm : m2 ≤ cap2) (hcap2 : cap2 ≤ 1000) (hq : pls m2 U V) (hk : k < n) : zM l yX4_isSweptByCut cX4_isSweptByCut 6 (some .boolean) ({ frames := 2, cells := 0, slots := 0, locals := 55 } : Room) [.ref lw, .ref r, .ref u, .int (nI k)] (dC, dI) (zTy cI cZ cF) [(oc3 lw (.ref dr) (.ref tg) (.ref wy) (.ref br) (.ref bo) (.ref aa)), (oc6 tg (.ref tx) (.ref ty) (nI nt) rt), (oa tx cI 3 TX), (oa ty cI 3 TY), (oc6 r (.ref rx) (.ref ry) (nI n) rg), (oa rx cI cap X), (oa ry cI cap Y), (oc6 u (.ref ux) (.ref uy) (nI m2) rh), (oa ux cI cap2 U), (oa uy cI cap2 V)] sz (some (.int (pI (∃ j, j < m2 ∧ swC n X Y k (U j).toInt (V j).toInt)))) (fun A t => ∃ (nt1 : Nat), ∃ (TX1 : Nat → Int32), ∃ (TY1 : Nat → Int32), ∃ (rt1 : Int32), zPD (dC, dI) classes A [(oc3 lw (.ref dr) (.ref tg) (.ref wy) (.ref br) (.ref bo) (.ref aa)), (oc6 tg (.ref tx) (.ref ty) (nI nt1) rt1), (oa tx cI 3 TX1), (oa ty cI 3 TY1), (oc6 r (.ref rx) (.ref ry) (nI n) rg), (oa rx cI cap X), (oa ry cI cap Y), (oc6 u (.ref ux) (.ref uy) (nI m2) rh), (oa ux cI cap2 U), (oa uy cI cap2 V)] t.heap) 0 0 := by
  refine zIn (own := "ScaleShop$Law") (loc := [(0, .ref lw), (1, .ref r), (2, .ref u), (3, .int (nI k))]) rfl rfl rfl rfl (fun p e s m below meth c hx hb hr hts hown hlocks hml hnm9 A hA hS hP hD hK hXN Q9 hQ9 ls hl => ?_)
  have hpv := prv_lt (n := n) (i := k) hk
  have hnx := nxt_lt (n := n) (i := k) (by omega)
  refine lv_aload_n hx hb dX4_isSweptByCut_0 rfl (lv_at hl 1 rfl) ?_
  refine lv_iload_n hx hb dX4_isSweptByCut_1 rfl (lv_at hl 3 rfl) ?_
  obtain ⟨hPc, hDc, hFc, hI1⟩ := zi_sub (wc := [_, _, _]) hP hD hS hA [4, 5, 6] rfl rfl
  refine zcall (st1 := [.int (nI (prv n k))]) (va_runV (As := [.int (nI k)]) (rest := []) ⟨hx, hb, hml, hown, hts⟩ (k_Row_previous l dC dI cI cZ cF s.heap.size r rx ry n cap X Y rg k (by first | with_reducible assumption | omega) (by first | with_reducible assumption | omega) (by first | with_reducible assumption | omega)) (csV_48 hts rfl rfl ⟨Nat.le_of_ble_eq_true rfl, Nat.le_of_ble_eq_true rfl⟩) (zPV2 (q0 := 0) (ci := 6) hPc hDc hK hXN rfl rfl) rfl rfl hl.1 rfl (lv_room (Nat.le_of_ble_eq_true rfl)) dX4_isSweptByCut_2 ⟨Nat.le_of_ble_eq_true rfl, Nat.le_of_ble_eq_true rfl⟩) hS hFc hFc rfl (fun t H locs ht hB hk1 hS => ?_)
  obtain ⟨hP1, hD1⟩ := hB
  rw [ht] at hP1
  replace hP := z0 hP hD hk1 hP1 hI1
  clear hk1 hPc hDc hFc hP1 hD1 ht hI1
  refine lv_istore (lv' := [(4, .int (nI (prv n k))), (0, .ref lw), (1, .ref r), (2, .ref u), (3, .int (nI k))]) hx hb dX4_isSweptByCut_5 hl (Nat.le_of_ble_eq_true rfl) rfl (fun ls hl => ?_)
  refine lv_aload_n hx hb dX4_isSweptByCut_7 rfl (lv_at hl 2 rfl) ?_
  refine lv_iload_n hx hb dX4_isSweptByCut_8 rfl (lv_at hl 4 rfl) ?_
  obtain ⟨hPc, hDc, hFc, hI1⟩ := zi_sub (wc := [_, _, _]) hP hD hS hA [4, 5, 6] rfl rfl
  refine zcall (st1 := [.int (nI (nxt n k))]) (va_runV (As := [.int (nI k)]) (rest := []) ⟨hx, hb, hml, hown, hts⟩ (k_Row_next l dC dI cI cZ cF H.size r rx ry n cap X Y rg k (by first | with_reducible assumption | omega) (by first | with_reducible assumption | omega) (by first | with_reducible assumption | omega)) (csV_44 hts rfl rfl ⟨Nat.le_of_ble_eq_true rfl, Nat.le_of_ble_eq_true rfl⟩) (zPV2 (q0 := 0) (ci := 6) hPc hDc hK hXN rfl rfl) rfl rfl hl.1 rfl (lv_room (Nat.le_of_ble_eq_true rfl)) dX4_isSweptByCut_9 ⟨Nat.le_of_ble_eq_true rfl, Nat.le_of_ble_eq_true rfl⟩) hS hFc hFc rfl (fun t H locs ht hB hk1 hS => ?_)
  obtain ⟨hP1, hD1⟩ := hB
  rw [ht] at hP1
  replace hP := z0 hP hD hk1 hP1 hI1
  clear hk1 hPc hDc hFc hP1 hD1 ht hI1
  refine lv_istore (lv' := [(5, .int (nI (nxt n k))), (4, .int (nI (prv n k))), (0, .ref lw), (1, .ref r), (2, .ref u), (3, .int (nI k))]) hx hb dX4_isSweptByCut_12 hl (Nat.le_of_ble_eq_true rfl) rfl (fun ls hl => ?_)
  refine lv_aload_n hx hb dX4_isSweptByCut_14 rfl (lv_at hl 2 rfl) ?_
  refine lv_aload_n hx hb dX4_isSweptByCut_15 rfl (lv_at hl 3 rfl) ?_
  refine lv_iload hx hb dX4_isSweptByCut_16 (lv_at hl 1 rfl) ?_
  refine lv_aload_n hx hb dX4_isSweptByCut_18 rfl (lv_at hl 3 rfl) ?_
  refine lv_iload_n hx hb dX4_isSweptByCut_19 rfl (lv_at hl 5 rfl) ?_
  refine lv_aload_n hx hb dX4_isSweptByCut_20 rfl (lv_at hl 3 rfl) ?_
  refine lv_iload hx hb dX4_isSweptByCut_21 (lv_at hl 0 rfl) ?_
  obtain ⟨hPc, hDc, hFc⟩ := zo_sub (wc := [_, _, _, _, _, _, _]) hP hD hS hA [0, 1, 2, 3, 4, 5, 6] (by decide +kernel) rfl
  refine zcall (st1 := []) (va_runV (As := [.ref r, .int (nI (prv n k)), .ref r, .int (nI k), .ref r, .int (nI (nxt n k))]) (rest := []) ⟨hx, hb, hml, hown, hts⟩ (k_Law_setTriangle_ooo l dC dI cI cZ cF H.size lw dr tg wy br bo aa tx ty nt TX TY rt r rx ry n cap X Y rg (prv n k) k (nxt n k) (by first | with_reducible assumption | omega) (by first | with_reducible assumption | omega) (by first | with_reducible assumption | omega) (by first | with_reducible assumption | omega) (by first | with_reducible assumption | omega)) (csV_49 hts rfl rfl ⟨Nat.le_of_ble_eq_true rfl, Nat.le_of_ble_eq_true rfl⟩) (zPV2 (q0 := 0) (ci := 3) hPc hDc hK hXN rfl rfl) rfl rfl hl.1 rfl (lv_room (Nat.le_of_ble_eq_true rfl)) dX4_isSweptByCut_23 ⟨Nat.le_of_ble_eq_true rfl, Nat.le_of_ble_eq_true rfl⟩) hS hFc hFc rfl (fun t H locs ht hB hk1 hS => ?_)
  obtain ⟨hP1, hD1⟩ := hB
  rw [ht] at hP1
  obtain ⟨hP, hD⟩ := zn (W2 := [_, (oc6 tg (.ref tx) (.ref ty) (nI 3) 1), (oa tx cI 3 (upd (upd (upd TX 0 (X (prv n k))) 1 (X k)) 2 (X (nxt n k)))), (oa ty cI 3 (upd (upd (upd TY 0 (Y (prv n k))) 1 (Y k)) 2 (Y (nxt n k)))), _, _, _, _, _, _]) hP hD hk1 hFc hP1 hD1 [0, 1, 2, 3, 4, 5, 6] zl_12 zl_12 [0, 1, 2, 3, 4, 5, 6] (by decide +kernel) rfl rfl rfl rfl rfl
  clear hk1 hPc hDc hFc hP1 hD1 ht
  refine lv_aload_n hx hb dX4_isSweptByCut_26 rfl (lv_at hl 2 rfl) ?_
  refine lv_aload_n hx hb dX4_isSweptByCut_27 rfl (lv_at hl 4 rfl) ?_
  refine lv_aload_n hx hb dX4_isSweptByCut_28 rfl (lv_at hl 3 rfl) ?_
  refine lv_iload hx hb dX4_isSweptByCut_29 (lv_at hl 1 rfl) ?_
  refine lv_aload_n hx hb dX4_isSweptByCut_31 rfl (lv_at hl 3 rfl) ?_
  refine lv_iload hx hb dX4_isSweptByCut_32 (lv_at hl 0 rfl) ?_
  obtain ⟨hPc, hDc, hFc, hI1⟩ := zi_sub (wc := [_, _, _, _, _, _, _, _, _, _]) hP hD hS hA [0, 1, 2, 3, 7, 8, 9, 4, 5, 6] (by decide +kernel) rfl
  refine zcall (st1 := [.int (pI (∃ j7, j7 < m2 ∧ ¬ ((X (prv n k)).toInt = (U j7).toInt ∧ (Y (prv n k)).toInt = (V j7).toInt) ∧ ¬ ((X (nxt n k)).toInt = (U j7).toInt ∧ (Y (nxt n k)).toInt = (V j7).toInt) ∧ ¬ (whr 3 (upd (upd (upd TX 0 (X (prv n k))) 1 (X k)) 2 (X (nxt n k))) (upd (upd (upd TY 0 (Y (prv n k))) 1 (Y k)) 2 (Y (nxt n k))) (U j7).toInt (V j7).toInt).toInt = 0))]) (va_runV (As := [.ref u, .ref r, .int (nI (prv n k)), .ref r, .int (nI (nxt n k))]) (rest := []) ⟨hx, hb, hml, hown, hts⟩ (k_Law_holdsCorner_rr l dC dI cI cZ cF H.size lw dr tg wy br bo aa tx ty (upd (upd (upd TX 0 (X (prv n k))) 1 (X k)) 2 (X (nxt n k))) (upd (upd (upd TY 0 (Y (prv n k))) 1 (Y k)) 2 (Y (nxt n k))) u ux uy m2 cap2 U V rh r rx ry n cap X Y rg (prv n k) (nxt n k) (by first | with_reducible assumption | omega) (by first | with_reducible assumption | omega) (by first | with_reducible assumption | omega) (by first | with_reducible assumption | omega) (hq) (tr3_pl (hp _ hpv).1 (hp _ hpv).2 (hp _ hk).1 (hp _ hk).2 (hp _ hnx).1 (hp _ hnx).2) (by first | with_reducible assumption | omega) (by first | with_reducible assumption | omega)) (csV_50 hts rfl rfl ⟨Nat.le_of_ble_eq_true rfl, Nat.le_of_ble_eq_true rfl⟩) (zPV2 (q0 := 0) (ci := 3) hPc hDc hK hXN rfl rfl) rfl rfl hl.1 rfl (lv_room (Nat.le_of_ble_eq_true rfl)) dX4_isSweptByCut_34 ⟨Nat.le_of_ble_eq_true rfl, Nat.le_of_ble_eq_true rfl⟩) hS hFc hFc rfl (fun t H locs ht hB hk1 hS => ?_)
  obtain ⟨hP1, hD1⟩ := hB
  rw [ht] at hP1
  replace hP := z0 hP hD hk1 hP1 hI1
  clear hk1 hPc hDc hFc hP1 hD1 ht hI1
  obtain ⟨hP9, hD9⟩ := zu_sub (wc := [_, _, _, _, _, _, _, _, _, _]) hP hD [true, true, true, true, true, true, true, true, true, true] rfl rfl
  rw [hQ9]
  exact W.zret (ty := .boolean) (v := pI (∃ j7, j7 < m2 ∧ ¬ ((X (prv n k)).toInt = (U j7).toInt ∧ (Y (prv n k)).toInt = (V j7).toInt) ∧ ¬ ((X (nxt n k)).toInt = (U j7).toInt ∧ (Y (nxt n k)).toInt = (V j7).toInt) ∧ ¬ (whr 3 (upd (upd (upd TX 0 (X (prv n k))) 1 (X k)) 2 (X (nxt n k))) (upd (upd (upd TY 0 (Y (prv n k))) 1 (Y k)) 2 (Y (nxt n k))) (U j7).toInt (V j7).toInt).toInt = 0)) hx hb hr (zp_nar _) (fun t ht hW => ⟨⟨congrArg (fun z => Outcome.returned (some (Value.int z))) (show (pI (∃ j7, j7 < m2 ∧ ¬ ((X (prv n k)).toInt = (U j7).toInt ∧ (Y (prv n k)).toInt = (V j7).toInt) ∧ ¬ ((X (nxt n k)).toInt = (U j7).toInt ∧ (Y (nxt n k)).toInt = (V j7).toInt) ∧ ¬ (whr 3 (upd (upd (upd TX 0 (X (prv n k))) 1 (X k)) 2 (X (nxt n k))) (upd (upd (upd TY 0 (Y (prv n k))) 1 (Y k)) 2 (Y (nxt n k))) (U j7).toInt (V j7).toInt).toInt = 0) : Int32) = pI (∃ j, j < m2 ∧ swC n X Y k (U j).toInt (V j).toInt) from zp_iff (exists_congr fun j => and_congr_right fun _ => and_congr_right fun _ => and_congr_right fun _ => wtR_e)), 3, (upd (upd (upd TX 0 (X (prv n k))) 1 (X k)) 2 (X (nxt n k))), (upd (upd (upd TY 0 (Y (prv n k))) 1 (Y k)) 2 (Y (nxt n k))), 1, by rw [ht]; exact hP9, hD9⟩, hS.F ht⟩) hS.2.2 dX4_isSweptByCut_37
set_option maxHeartbeats 4000000 in
set_option maxRecDepth 100000 in
theorem k_Law_isSweptByMove (l : Launch) (dC : Nat → ClassId) (dI : Nat → Nat → Nat) (cI cZ cF : ClassId) (sz : Nat) (lw : Nat) (dr : Nat) (tg : Nat) (wy : Nat) (br : Nat) (bo : Nat) (aa : Nat) (tx : Nat) (ty : Nat) (nt : Nat) (TX : Nat → Int32) (TY : Nat → Int32) (rt : Int32) (dx : Nat) (dy : Nat) (nd : Nat) (cd : Nat) (P : Nat → Int32) (Q : Nat → Int32) (rd : Int32) (r : Nat) (rx : Nat) (ry : Nat) (n : Nat) (cap : Nat) (X : Nat → Int32) (Y : Nat → Int32) (rg : Int32) (u : Nat) (ux : Nat) (uy : Nat) (m2 : Nat) (cap2 : Nat) (U : Nat → Int32) (V : Nat → Int32) (rh : Int32) (hnd : nd ≤ cd) (hcd : cd ≤ 1000) (hpd : pls nd P Q) (hn : n ≤ cap) (hcap : cap ≤ 1000) (hp : pls n X Y) (hm : m2 ≤ cap2) (hcap2 : cap2 ≤ 1000) (hq : pls m2 U V) (hdn : nd = n) : zM l yX4_isSweptByMove cX4_isSweptByMove 7 (some .boolean) ({ frames := 2, cells := 0, slots := 0, locals := 55 } : Room) [.ref lw, .ref r, .ref u] (dC, dI) (zTy cI cZ cF) [(oc3 lw (.ref dr) (.ref tg) (.ref wy) (.ref br) (.ref bo) (.ref aa)), (oc6 tg (.ref tx) (.ref ty) (nI nt) rt), (oa tx cI 3 TX), (oa ty cI 3 TY), (oc6 dr (.ref dx) (.ref dy) (nI nd) rd), (oa dx cI cd P), (oa dy cI cd Q), (oc6 r (.ref rx) (.ref ry) (nI n) rg), (oa rx cI cap X), (oa ry cI cap Y), (oc6 u (.ref ux) (.ref uy) (nI m2) rh), (oa ux cI cap2 U), (oa uy cI cap2 V)] sz (some (.int (pI (∃ i, i < edg n rg ∧ ∃ k, k < m2 ∧ swR n X Y P Q (U k).toInt (V k).toInt i)))) (fun A t => ∃ (nt1 : Nat), ∃ (TX1 : Nat → Int32), ∃ (TY1 : Nat → Int32), ∃ (rt1 : Int32), zPD (dC, dI) classes A [(oc3 lw (.ref dr) (.ref tg) (.ref wy) (.ref br) (.ref bo) (.ref aa)), (oc6 tg (.ref tx) (.ref ty) (nI nt1) rt1), (oa tx cI 3 TX1), (oa ty cI 3 TY1), (oc6 dr (.ref dx) (.ref dy) (nI nd) rd), (oa dx cI cd P), (oa dy cI cd Q), (oc6 r (.ref rx) (.ref ry) (nI n) rg), (oa rx cI cap X), (oa ry cI cap Y), (oc6 u (.ref ux) (.ref uy) (nI m2) rh), (oa ux cI cap2 U), (oa uy cI cap2 V)] t.heap) 0 0 := by
  refine zIn (own := "ScaleShop$Law") (loc := [(0, .ref lw), (1, .ref r), (2, .ref u)]) rfl rfl rfl rfl (fun p e s m below meth c hx hb hr hts hown hlocks hml hnm9 A hA hS hP hD hK hXN Q9 hQ9 ls hl => ?_)
  have hle := edg_le n rg
  refine lv_iconst (v := 0) hx hb dX4_isSweptByMove_0 rfl ?_
  refine lv_istore_n (lv' := [(3, .int 0), (0, .ref lw), (1, .ref r), (2, .ref u)]) hx hb dX4_isSweptByMove_1 rfl hl (Nat.le_of_ble_eq_true rfl) rfl (fun ls hl => ?_)
  have hl_2 : ∀ (n9 : Nat) (i : Nat) (nt1 : Nat) (TX1 : Nat → Int32) (TY1 : Nat → Int32) (rt1 : Int32) (H : Heap) (locs : List Loc) (ls : Array Slot), edg n rg - i < n9 → (i ≤ edg n rg) → (∀ j, j < i → ∀ k, k < m2 → ¬ swR n X Y P Q (U k).toInt (V k).toInt j) → va_P (dC, dI) classes [(oc3 lw (.ref dr) (.ref tg) (.ref wy) (.ref br) (.ref bo) (.ref aa)), (oc6 tg (.ref tx) (.ref ty) (nI nt1) rt1), (oa tx cI 3 TX1), (oa ty cI 3 TY1), (oc6 dr (.ref dx) (.ref dy) (nI nd) rd), (oa dx cI cd P), (oa dy cI cd Q), (oc6 r (.ref rx) (.ref ry) (nI n) rg), (oa rx cI cap X), (oa ry cI cap Y), (oc6 u (.ref ux) (.ref uy) (nI m2) rh), (oa ux cI cap2 U), (oa uy cI cap2 V)] H → va_D A [(oc3 lw (.ref dr) (.ref tg) (.ref wy) (.ref br) (.ref bo) (.ref aa)), (oc6 tg (.ref tx) (.ref ty) (nI nt1) rt1), (oa tx cI 3 TX1), (oa ty cI 3 TY1), (oc6 dr (.ref dx) (.ref dy) (nI nd) rd), (oa dx cI cd P), (oa dy cI cd Q), (oc6 r (.ref rx) (.ref ry) (nI n) rg), (oa rx cI cap X), (oa ry cI cap Y), (oc6 u (.ref ux) (.ref uy) (nI m2) rh), (oa ux cI cap2 U), (oa uy cI cap2 V)] → va_S A s.heap H locs → lv_has ls 7 [(3, .int (nI i)), (0, .ref lw), (1, .ref r), (2, .ref u)] → W p l e ({ frames := 2, cells := 0, slots := 0, locals := 55 } : Room) s m ([.ref lw, .ref r, .ref u] : List Value).toArray below meth c H locs 0 0 Q9 (F0 m 2 ls []) := by
    intro n9
    induction n9 with
    | zero => intro i nt1 TX1 TY1 rt1 H locs ls hm; exact absurd hm (Nat.not_lt_zero _)
    | succ n9 ih_2 =>
      intro i nt1 TX1 TY1 rt1 H locs ls hm hi hno hP hD hS hl
      refine lv_iload_n hx hb dX4_isSweptByMove_2 rfl (lv_at hl 0 rfl) ?_
      refine lv_aload_n hx hb dX4_isSweptByMove_3 rfl (lv_at hl 2 rfl) ?_
      obtain ⟨hPc, hDc, hFc, hI1⟩ := zi_sub (wc := [_, _, _]) hP hD hS hA [7, 8, 9] rfl rfl
      refine zcall (st1 := [.int (nI (edg n rg)), .int (nI i)]) (va_runV (As := []) (rest := [.int (nI i)]) ⟨hx, hb, hml, hown, hts⟩ (k_Row_edges l dC dI cI cZ cF H.size r rx ry n cap X Y rg (by first | with_reducible assumption | omega) (by first | with_reducible assumption | omega)) (csV_51 hts rfl rfl ⟨Nat.le_of_ble_eq_true rfl, Nat.le_of_ble_eq_true rfl⟩) (zPV2 (q0 := 0) (ci := 6) hPc hDc hK hXN rfl rfl) rfl rfl hl.1 rfl (lv_room (Nat.le_of_ble_eq_true rfl)) dX4_isSweptByMove_4 ⟨Nat.le_of_ble_eq_true rfl, Nat.le_of_ble_eq_true rfl⟩) hS hFc hFc rfl (fun t H locs ht hB hk1 hS => ?_)
      obtain ⟨hP1, hD1⟩ := hB
      rw [ht] at hP1
      replace hP := z0 hP hD hk1 hP1 hI1
      clear hk1 hPc hDc hFc hP1 hD1 ht hI1
      have b9_2 : zlt (i) := show i < 2147483648 by omega
      have b9_3 : zlt ((edg n rg)) := show (edg n rg) < 2147483648 by omega
      refine lv_icmp_ge (tgt := 165) hx hb dX4_isSweptByMove_7 rfl (fun c_1 => ?_) (fun c_1 => ?_)
      · have c_1 : ((edg n rg : Nat) : Int) ≤ ((i : Nat) : Int) := zc_le (nI_toInt b9_3) (nI_toInt b9_2) c_1
        refine lv_iconst (v := 0) hx hb dX4_isSweptByMove_165 rfl ?_
        obtain ⟨hP9, hD9⟩ := zu_sub (wc := [_, _, _, _, _, _, _, _, _, _, _, _, _]) hP hD [true, true, true, true, true, true, true, true, true, true, true, true, true] rfl rfl
        rw [hQ9]
        exact W.zret (ty := .boolean) (v := 0) hx hb hr (rfl) (fun t ht hW => ⟨⟨congrArg (fun z => Outcome.returned (some (Value.int z))) (show (0 : Int32) = pI (∃ i, i < edg n rg ∧ ∃ k, k < m2 ∧ swR n X Y P Q (U k).toInt (V k).toInt i) from (zp_f (fun ⟨j, hj, k, hk, h⟩ => hno j (by omega) k hk h)).symm), nt1, TX1, TY1, rt1, by rw [ht]; exact hP9, hD9⟩, hS.F ht⟩) hS.2.2 dX4_isSweptByMove_166
      · have c_1 : ((i : Nat) : Int) < ((edg n rg : Nat) : Int) := zc_nle (nI_toInt b9_3) (nI_toInt b9_2) c_1
        have hin : i < n := (by omega)
        have hnx := nxt_lt (n := n) (i := i) (by omega)
        have hid9 : i < nd := (by omega)
        have hnd9 : nxt n i < nd := (by omega)
        refine lv_aload_n hx hb dX4_isSweptByMove_10 rfl (lv_at hl 2 rfl) ?_
        refine lv_iload_n hx hb dX4_isSweptByMove_11 rfl (lv_at hl 0 rfl) ?_
        obtain ⟨hPc, hDc, hFc, hI1⟩ := zi_sub (wc := [_, _, _]) hP hD hS hA [7, 8, 9] rfl rfl
        refine zcall (st1 := [.int (nI (nxt n i))]) (va_runV (As := [.int (nI i)]) (rest := []) ⟨hx, hb, hml, hown, hts⟩ (k_Row_next l dC dI cI cZ cF H.size r rx ry n cap X Y rg i (by first | with_reducible assumption | omega) (by first | with_reducible assumption | omega) (by first | with_reducible assumption | omega)) (csV_44 hts rfl rfl ⟨Nat.le_of_ble_eq_true rfl, Nat.le_of_ble_eq_true rfl⟩) (zPV2 (q0 := 0) (ci := 6) hPc hDc hK hXN rfl rfl) rfl rfl hl.1 rfl (lv_room (Nat.le_of_ble_eq_true rfl)) dX4_isSweptByMove_12 ⟨Nat.le_of_ble_eq_true rfl, Nat.le_of_ble_eq_true rfl⟩) hS hFc hFc rfl (fun t H locs ht hB hk1 hS => ?_)
        obtain ⟨hP1, hD1⟩ := hB
        rw [ht] at hP1
        replace hP := z0 hP hD hk1 hP1 hI1
        clear hk1 hPc hDc hFc hP1 hD1 ht hI1
        refine lv_istore (lv' := [(4, .int (nI (nxt n i))), (3, .int (nI i)), (0, .ref lw), (1, .ref r), (2, .ref u)]) hx hb dX4_isSweptByMove_15 hl (Nat.le_of_ble_eq_true rfl) rfl (fun ls hl => ?_)
        refine lv_aload_n hx hb dX4_isSweptByMove_17 rfl (lv_at hl 2 rfl) ?_
        refine va_get (D := (dC, dI)) (ci := 3) (v := .ref dr) (C := RX4) (T := TX4) (N := 6) hx hb hts inX4 hown hK hP 0 rfl rfl 0 (Nat.le_of_ble_eq_true rfl) (hts _ mw_219) (fun _ h9 => h9) rfl dX4_isSweptByMove_18 ?_
        refine lv_iload_n hx hb dX4_isSweptByMove_21 rfl (lv_at hl 1 rfl) ?_
        refine lv_aload_n hx hb dX4_isSweptByMove_22 rfl (lv_at hl 3 rfl) ?_
        refine va_get (D := (dC, dI)) (ci := 6) (v := .ref rx) (C := RX7) (T := TX7) (N := 4) hx hb hts inX7 hown hK hP 7 rfl rfl 0 (Nat.le_of_ble_eq_true rfl) (hts _ mw_163) (fun _ h9 => h9) rfl dX4_isSweptByMove_23 ?_
        refine lv_iload_n hx hb dX4_isSweptByMove_26 rfl (lv_at hl 1 rfl) ?_
        have b9_4 : i < cap := by omega
        have b9_5 : zlt (cap) := show cap < 2147483648 by omega
        refine z_iald hx hb hK hP 8 0 rfl rfl (e := i) rfl b9_4 b9_5 dX4_isSweptByMove_27 ?_
        refine lv_aload_n hx hb dX4_isSweptByMove_28 rfl (lv_at hl 3 rfl) ?_
        refine va_get (D := (dC, dI)) (ci := 6) (v := .ref ry) (C := RX7) (T := TX7) (N := 4) hx hb hts inX7 hown hK hP 7 rfl rfl 1 (Nat.le_of_ble_eq_true rfl) (hts _ mw_170) (fun _ h9 => h9) rfl dX4_isSweptByMove_29 ?_
        refine lv_iload_n hx hb dX4_isSweptByMove_32 rfl (lv_at hl 1 rfl) ?_
        refine z_iald hx hb hK hP 9 0 rfl rfl (e := i) rfl b9_4 b9_5 dX4_isSweptByMove_33 ?_
        obtain ⟨hPc, hDc, hFc, hI1⟩ := zi_sub (wc := [_, _, _]) hP hD hS hA [4, 5, 6] rfl rfl
        refine zcall (st1 := [.int (pI ((P i).toInt = (X i).toInt ∧ (Q i).toInt = (Y i).toInt))]) (va_runV (As := [.int (nI i), .int (X i), .int (Y i)]) (rest := []) ⟨hx, hb, hml, hown, hts⟩ (k_Row_isCorner l dC dI cI cZ cF H.size dr dx dy nd cd P Q rd i (X i) (Y i) (by first | with_reducible assumption | omega) (by first | with_reducible assumption | omega) (by first | with_reducible assumption | omega)) (csV_47 hts rfl rfl ⟨Nat.le_of_ble_eq_true rfl, Nat.le_of_ble_eq_true rfl⟩) (zPV2 (q0 := 0) (ci := 6) hPc hDc hK hXN rfl rfl) rfl rfl hl.1 rfl (lv_room (Nat.le_of_ble_eq_true rfl)) dX4_isSweptByMove_34 ⟨Nat.le_of_ble_eq_true rfl, Nat.le_of_ble_eq_true rfl⟩) hS hFc hFc rfl (fun t H locs ht hB hk1 hS => ?_)
        obtain ⟨hP1, hD1⟩ := hB
        rw [ht] at hP1
        replace hP := z0 hP hD hk1 hP1 hI1
        clear hk1 hPc hDc hFc hP1 hD1 ht hI1
        refine lv_if_eq (tgt := 44) hx hb dX4_isSweptByMove_37 rfl (fun c_6 => ?_) (fun c_6 => ?_)
        · have c_6 : ¬ ((P i).toInt = (X i).toInt ∧ (Q i).toInt = (Y i).toInt) := zp_0 c_6
          refine lv_null hx hb dX4_isSweptByMove_44 ?_
          refine lv_astoreN (lv' := [(5, .null), (4, .int (nI (nxt n i))), (3, .int (nI i)), (0, .ref lw), (1, .ref r), (2, .ref u)]) hx hb dX4_isSweptByMove_45 hl (Nat.le_of_ble_eq_true rfl) rfl (fun ls hl => ?_)
          refine lv_aload_n hx hb dX4_isSweptByMove_47 rfl (lv_at hl 3 rfl) ?_
          refine va_get (D := (dC, dI)) (ci := 3) (v := .ref dr) (C := RX4) (T := TX4) (N := 6) hx hb hts inX4 hown hK hP 0 rfl rfl 0 (Nat.le_of_ble_eq_true rfl) (hts _ mw_219) (fun _ h9 => h9) rfl dX4_isSweptByMove_48 ?_
          refine lv_iload hx hb dX4_isSweptByMove_51 (lv_at hl 1 rfl) ?_
          refine lv_aload_n hx hb dX4_isSweptByMove_53 rfl (lv_at hl 4 rfl) ?_
          refine va_get (D := (dC, dI)) (ci := 6) (v := .ref rx) (C := RX7) (T := TX7) (N := 4) hx hb hts inX7 hown hK hP 7 rfl rfl 0 (Nat.le_of_ble_eq_true rfl) (hts _ mw_163) (fun _ h9 => h9) rfl dX4_isSweptByMove_54 ?_
          refine lv_iload hx hb dX4_isSweptByMove_57 (lv_at hl 1 rfl) ?_
          have b9_7 : nxt n i < cap := by omega
          refine z_iald hx hb hK hP 8 0 rfl rfl (e := nxt n i) rfl b9_7 b9_5 dX4_isSweptByMove_59 ?_
          refine lv_aload_n hx hb dX4_isSweptByMove_60 rfl (lv_at hl 4 rfl) ?_
          refine va_get (D := (dC, dI)) (ci := 6) (v := .ref ry) (C := RX7) (T := TX7) (N := 4) hx hb hts inX7 hown hK hP 7 rfl rfl 1 (Nat.le_of_ble_eq_true rfl) (hts _ mw_170) (fun _ h9 => h9) rfl dX4_isSweptByMove_61 ?_
          refine lv_iload hx hb dX4_isSweptByMove_64 (lv_at hl 1 rfl) ?_
          refine z_iald hx hb hK hP 9 0 rfl rfl (e := nxt n i) rfl b9_7 b9_5 dX4_isSweptByMove_66 ?_
          obtain ⟨hPc, hDc, hFc, hI1⟩ := zi_sub (wc := [_, _, _]) hP hD hS hA [4, 5, 6] rfl rfl
          refine zcall (st1 := [.int (pI ((P (nxt n i)).toInt = (X (nxt n i)).toInt ∧ (Q (nxt n i)).toInt = (Y (nxt n i)).toInt))]) (va_runV (As := [.int (nI (nxt n i)), .int (X (nxt n i)), .int (Y (nxt n i))]) (rest := []) ⟨hx, hb, hml, hown, hts⟩ (k_Row_isCorner l dC dI cI cZ cF H.size dr dx dy nd cd P Q rd (nxt n i) (X (nxt n i)) (Y (nxt n i)) (by first | with_reducible assumption | omega) (by first | with_reducible assumption | omega) (by first | with_reducible assumption | omega)) (csV_47 hts rfl rfl ⟨Nat.le_of_ble_eq_true rfl, Nat.le_of_ble_eq_true rfl⟩) (zPV2 (q0 := 0) (ci := 6) hPc hDc hK hXN rfl rfl) rfl rfl hl.1 rfl (lv_room (Nat.le_of_ble_eq_true rfl)) dX4_isSweptByMove_67 ⟨Nat.le_of_ble_eq_true rfl, Nat.le_of_ble_eq_true rfl⟩) hS hFc hFc rfl (fun t H locs ht hB hk1 hS => ?_)
          obtain ⟨hP1, hD1⟩ := hB
          rw [ht] at hP1
          replace hP := z0 hP hD hk1 hP1 hI1
          clear hk1 hPc hDc hFc hP1 hD1 ht hI1
          refine lv_if_eq (tgt := 77) hx hb dX4_isSweptByMove_70 rfl (fun c_8 => ?_) (fun c_8 => ?_)
          · have c_8 : ¬ ((P (nxt n i)).toInt = (X (nxt n i)).toInt ∧ (Q (nxt n i)).toInt = (Y (nxt n i)).toInt) := zp_0 c_8
            refine lv_null hx hb dX4_isSweptByMove_77 ?_
            refine lv_astoreN (lv' := [(6, .null), (5, .null), (4, .int (nI (nxt n i))), (3, .int (nI i)), (0, .ref lw), (1, .ref r), (2, .ref u)]) hx hb dX4_isSweptByMove_78 hl (Nat.le_of_ble_eq_true rfl) rfl (fun ls hl => ?_)
            refine lv_aloadN hx hb dX4_isSweptByMove_80 (lv_at hl 1 rfl) ?_
            refine lv_ifnullN (tgt := 93) hx hb dX4_isSweptByMove_82 rfl ?_
            refine lv_aload_n hx hb dX4_isSweptByMove_93 rfl (lv_at hl 4 rfl) ?_
            refine lv_aload_n hx hb dX4_isSweptByMove_94 rfl (lv_at hl 5 rfl) ?_
            refine lv_iload_n hx hb dX4_isSweptByMove_95 rfl (lv_at hl 3 rfl) ?_
            refine lv_aload_n hx hb dX4_isSweptByMove_96 rfl (lv_at hl 5 rfl) ?_
            refine lv_iload hx hb dX4_isSweptByMove_97 (lv_at hl 2 rfl) ?_
            refine lv_aload_n hx hb dX4_isSweptByMove_99 rfl (lv_at hl 4 rfl) ?_
            refine va_get (D := (dC, dI)) (ci := 3) (v := .ref dr) (C := RX4) (T := TX4) (N := 6) hx hb hts inX4 hown hK hP 0 rfl rfl 0 (Nat.le_of_ble_eq_true rfl) (hts _ mw_219) (fun _ h9 => h9) rfl dX4_isSweptByMove_100 ?_
            refine lv_iload hx hb dX4_isSweptByMove_103 (lv_at hl 2 rfl) ?_
            obtain ⟨hPc, hDc, hFc⟩ := zo_sub (wc := [_, _, _, _, _, _, _, _, _, _]) hP hD hS hA [0, 1, 2, 3, 7, 8, 9, 4, 5, 6] (by decide +kernel) rfl
            refine zcall (st1 := []) (va_runV (As := [.ref r, .int (nI i), .ref r, .int (nI (nxt n i)), .ref dr, .int (nI (nxt n i))]) (rest := []) ⟨hx, hb, hml, hown, hts⟩ (k_Law_setTriangle_ood l dC dI cI cZ cF H.size lw dr tg wy br bo aa tx ty nt1 TX1 TY1 rt1 r rx ry n cap X Y rg dx dy nd cd P Q rd i (nxt n i) (nxt n i) (by first | with_reducible assumption | omega) (by first | with_reducible assumption | omega) (by first | with_reducible assumption | omega) (by first | with_reducible assumption | omega) (by first | with_reducible assumption | omega) (by first | with_reducible assumption | omega) (by first | with_reducible assumption | omega)) (csV_49 hts rfl rfl ⟨Nat.le_of_ble_eq_true rfl, Nat.le_of_ble_eq_true rfl⟩) (zPV2 (q0 := 0) (ci := 3) hPc hDc hK hXN rfl rfl) rfl rfl hl.1 rfl (lv_room (Nat.le_of_ble_eq_true rfl)) dX4_isSweptByMove_105 ⟨Nat.le_of_ble_eq_true rfl, Nat.le_of_ble_eq_true rfl⟩) hS hFc hFc rfl (fun t H locs ht hB hk1 hS => ?_)
            obtain ⟨hP1, hD1⟩ := hB
            rw [ht] at hP1
            obtain ⟨hP, hD⟩ := zn (W2 := [_, (oc6 tg (.ref tx) (.ref ty) (nI 3) 1), (oa tx cI 3 (upd (upd (upd TX1 0 (X i)) 1 (X (nxt n i))) 2 (P (nxt n i)))), (oa ty cI 3 (upd (upd (upd TY1 0 (Y i)) 1 (Y (nxt n i))) 2 (Q (nxt n i)))), _, _, _, _, _, _, _, _, _]) hP hD hk1 hFc hP1 hD1 zl_13 zl_14 zl_14 zl_13 (by decide +kernel) rfl rfl rfl rfl rfl
            clear hk1 hPc hDc hFc hP1 hD1 ht
            refine lv_aload_n hx hb dX4_isSweptByMove_108 rfl (lv_at hl 4 rfl) ?_
            refine lv_aload_n hx hb dX4_isSweptByMove_109 rfl (lv_at hl 6 rfl) ?_
            refine lv_aloadN hx hb dX4_isSweptByMove_110 (lv_at hl 1 rfl) ?_
            refine lv_iload_n hx hb dX4_isSweptByMove_112 rfl (lv_at hl 3 rfl) ?_
            refine lv_aloadN hx hb dX4_isSweptByMove_113 (lv_at hl 0 rfl) ?_
            refine lv_iload hx hb dX4_isSweptByMove_115 (lv_at hl 2 rfl) ?_
            obtain ⟨hPc, hDc, hFc, hI1⟩ := zi_sub (wc := [_, _, _, _, _, _, _]) hP hD hS hA [0, 1, 2, 3, 10, 11, 12] (by decide +kernel) rfl
            refine zcall (st1 := [.int (pI (∃ j7, j7 < m2 ∧ ¬ (whr 3 (upd (upd (upd TX1 0 (X i)) 1 (X (nxt n i))) 2 (P (nxt n i))) (upd (upd (upd TY1 0 (Y i)) 1 (Y (nxt n i))) 2 (Q (nxt n i))) (U j7).toInt (V j7).toInt).toInt = 0))]) (va_runV (As := [.ref u, .null, .int (nI i), .null, .int (nI (nxt n i))]) (rest := []) ⟨hx, hb, hml, hown, hts⟩ (k_Law_holdsCorner_nn l dC dI cI cZ cF H.size lw dr tg wy br bo aa tx ty (upd (upd (upd TX1 0 (X i)) 1 (X (nxt n i))) 2 (P (nxt n i))) (upd (upd (upd TY1 0 (Y i)) 1 (Y (nxt n i))) 2 (Q (nxt n i))) u ux uy m2 cap2 U V rh i (nxt n i) (by first | with_reducible assumption | omega) (by first | with_reducible assumption | omega) (hq) (tr3_pl (hp _ hin).1 (hp _ hin).2 (hp _ hnx).1 (hp _ hnx).2 (hpd _ hnd9).1 (hpd _ hnd9).2)) (csV_50 hts rfl rfl ⟨Nat.le_of_ble_eq_true rfl, Nat.le_of_ble_eq_true rfl⟩) (zPV2 (q0 := 0) (ci := 3) hPc hDc hK hXN rfl rfl) rfl rfl hl.1 rfl (lv_room (Nat.le_of_ble_eq_true rfl)) dX4_isSweptByMove_117 ⟨Nat.le_of_ble_eq_true rfl, Nat.le_of_ble_eq_true rfl⟩) hS hFc hFc rfl (fun t H locs ht hB hk1 hS => ?_)
            obtain ⟨hP1, hD1⟩ := hB
            rw [ht] at hP1
            replace hP := z0 hP hD hk1 hP1 hI1
            clear hk1 hPc hDc hFc hP1 hD1 ht hI1
            refine zz_i (v := pI (∃ k, k < m2 ∧ ¬ spr n X Y P Q i (U k).toInt (V k).toInt ∧ wtR (X i) (Y i) (X (nxt n i)) (Y (nxt n i)) (P (nxt n i)) (Q (nxt n i)) (U k).toInt (V k).toInt)) (zp_iff (sp_nn (by first | with_reducible assumption | assumption) (by first | with_reducible assumption | assumption) (fun _ => wtR_e))) ?_
            refine lv_if_eq (tgt := 125) hx hb dX4_isSweptByMove_120 rfl (fun c_9 => ?_) (fun c_9 => ?_)
            · have c_9 : ¬ (∃ k, k < m2 ∧ ¬ spr n X Y P Q i (U k).toInt (V k).toInt ∧ wtR (X i) (Y i) (X (nxt n i)) (Y (nxt n i)) (P (nxt n i)) (Q (nxt n i)) (U k).toInt (V k).toInt) := zp_0 c_9
              refine lv_aload_n hx hb dX4_isSweptByMove_125 rfl (lv_at hl 4 rfl) ?_
              refine lv_aload_n hx hb dX4_isSweptByMove_126 rfl (lv_at hl 5 rfl) ?_
              refine lv_iload_n hx hb dX4_isSweptByMove_127 rfl (lv_at hl 3 rfl) ?_
              refine lv_aload_n hx hb dX4_isSweptByMove_128 rfl (lv_at hl 4 rfl) ?_
              refine va_get (D := (dC, dI)) (ci := 3) (v := .ref dr) (C := RX4) (T := TX4) (N := 6) hx hb hts inX4 hown hK hP 0 rfl rfl 0 (Nat.le_of_ble_eq_true rfl) (hts _ mw_219) (fun _ h9 => h9) rfl dX4_isSweptByMove_129 ?_
              refine lv_iload_n hx hb dX4_isSweptByMove_132 rfl (lv_at hl 3 rfl) ?_
              refine lv_aload_n hx hb dX4_isSweptByMove_133 rfl (lv_at hl 4 rfl) ?_
              refine va_get (D := (dC, dI)) (ci := 3) (v := .ref dr) (C := RX4) (T := TX4) (N := 6) hx hb hts inX4 hown hK hP 0 rfl rfl 0 (Nat.le_of_ble_eq_true rfl) (hts _ mw_219) (fun _ h9 => h9) rfl dX4_isSweptByMove_134 ?_
              refine lv_iload hx hb dX4_isSweptByMove_137 (lv_at hl 2 rfl) ?_
              obtain ⟨hPc, hDc, hFc⟩ := zo_sub (wc := [_, _, _, _, _, _, _, _, _, _]) hP hD hS hA [0, 1, 2, 3, 7, 8, 9, 4, 5, 6] (by decide +kernel) rfl
              refine zcall (st1 := []) (va_runV (As := [.ref r, .int (nI i), .ref dr, .int (nI i), .ref dr, .int (nI (nxt n i))]) (rest := []) ⟨hx, hb, hml, hown, hts⟩ (k_Law_setTriangle_odd l dC dI cI cZ cF H.size lw dr tg wy br bo aa tx ty 3 (upd (upd (upd TX1 0 (X i)) 1 (X (nxt n i))) 2 (P (nxt n i))) (upd (upd (upd TY1 0 (Y i)) 1 (Y (nxt n i))) 2 (Q (nxt n i))) 1 r rx ry n cap X Y rg dx dy nd cd P Q rd i i (nxt n i) (by first | with_reducible assumption | omega) (by first | with_reducible assumption | omega) (by first | with_reducible assumption | omega) (by first | with_reducible assumption | omega) (by first | with_reducible assumption | omega) (by first | with_reducible assumption | omega) (by first | with_reducible assumption | omega)) (csV_49 hts rfl rfl ⟨Nat.le_of_ble_eq_true rfl, Nat.le_of_ble_eq_true rfl⟩) (zPV2 (q0 := 0) (ci := 3) hPc hDc hK hXN rfl rfl) rfl rfl hl.1 rfl (lv_room (Nat.le_of_ble_eq_true rfl)) dX4_isSweptByMove_139 ⟨Nat.le_of_ble_eq_true rfl, Nat.le_of_ble_eq_true rfl⟩) hS hFc hFc rfl (fun t H locs ht hB hk1 hS => ?_)
              obtain ⟨hP1, hD1⟩ := hB
              rw [ht] at hP1
              obtain ⟨hP, hD⟩ := zn (W2 := [_, _, (oa tx cI 3 (upd (upd (upd (upd (upd (upd TX1 0 (X i)) 1 (X (nxt n i))) 2 (P (nxt n i))) 0 (X i)) 1 (P i)) 2 (P (nxt n i)))), (oa ty cI 3 (upd (upd (upd (upd (upd (upd TY1 0 (Y i)) 1 (Y (nxt n i))) 2 (Q (nxt n i))) 0 (Y i)) 1 (Q i)) 2 (Q (nxt n i)))), _, _, _, _, _, _, _, _, _]) hP hD hk1 hFc hP1 hD1 zl_13 zl_14 zl_14 zl_13 (by decide +kernel) rfl rfl rfl rfl rfl
              clear hk1 hPc hDc hFc hP1 hD1 ht
              refine lv_aload_n hx hb dX4_isSweptByMove_142 rfl (lv_at hl 4 rfl) ?_
              refine lv_aload_n hx hb dX4_isSweptByMove_143 rfl (lv_at hl 6 rfl) ?_
              refine lv_aloadN hx hb dX4_isSweptByMove_144 (lv_at hl 1 rfl) ?_
              refine lv_iload_n hx hb dX4_isSweptByMove_146 rfl (lv_at hl 3 rfl) ?_
              refine lv_aloadN hx hb dX4_isSweptByMove_147 (lv_at hl 0 rfl) ?_
              refine lv_iload hx hb dX4_isSweptByMove_149 (lv_at hl 2 rfl) ?_
              obtain ⟨hPc, hDc, hFc, hI1⟩ := zi_sub (wc := [_, _, _, _, _, _, _]) hP hD hS hA [0, 1, 2, 3, 10, 11, 12] (by decide +kernel) rfl
              refine zcall (st1 := [.int (pI (∃ j7, j7 < m2 ∧ ¬ (whr 3 (upd (upd (upd (upd (upd (upd TX1 0 (X i)) 1 (X (nxt n i))) 2 (P (nxt n i))) 0 (X i)) 1 (P i)) 2 (P (nxt n i))) (upd (upd (upd (upd (upd (upd TY1 0 (Y i)) 1 (Y (nxt n i))) 2 (Q (nxt n i))) 0 (Y i)) 1 (Q i)) 2 (Q (nxt n i))) (U j7).toInt (V j7).toInt).toInt = 0))]) (va_runV (As := [.ref u, .null, .int (nI i), .null, .int (nI (nxt n i))]) (rest := []) ⟨hx, hb, hml, hown, hts⟩ (k_Law_holdsCorner_nn l dC dI cI cZ cF H.size lw dr tg wy br bo aa tx ty (upd (upd (upd (upd (upd (upd TX1 0 (X i)) 1 (X (nxt n i))) 2 (P (nxt n i))) 0 (X i)) 1 (P i)) 2 (P (nxt n i))) (upd (upd (upd (upd (upd (upd TY1 0 (Y i)) 1 (Y (nxt n i))) 2 (Q (nxt n i))) 0 (Y i)) 1 (Q i)) 2 (Q (nxt n i))) u ux uy m2 cap2 U V rh i (nxt n i) (by first | with_reducible assumption | omega) (by first | with_reducible assumption | omega) (hq) (tr3_pl (hp _ hin).1 (hp _ hin).2 (hpd _ hid9).1 (hpd _ hid9).2 (hpd _ hnd9).1 (hpd _ hnd9).2)) (csV_50 hts rfl rfl ⟨Nat.le_of_ble_eq_true rfl, Nat.le_of_ble_eq_true rfl⟩) (zPV2 (q0 := 0) (ci := 3) hPc hDc hK hXN rfl rfl) rfl rfl hl.1 rfl (lv_room (Nat.le_of_ble_eq_true rfl)) dX4_isSweptByMove_151 ⟨Nat.le_of_ble_eq_true rfl, Nat.le_of_ble_eq_true rfl⟩) hS hFc hFc rfl (fun t H locs ht hB hk1 hS => ?_)
              obtain ⟨hP1, hD1⟩ := hB
              rw [ht] at hP1
              replace hP := z0 hP hD hk1 hP1 hI1
              clear hk1 hPc hDc hFc hP1 hD1 ht hI1
              refine zz_i (v := pI (∃ k, k < m2 ∧ ¬ spr n X Y P Q i (U k).toInt (V k).toInt ∧ wtR (X i) (Y i) (P i) (Q i) (P (nxt n i)) (Q (nxt n i)) (U k).toInt (V k).toInt)) (zp_iff (sp_nn (by first | with_reducible assumption | assumption) (by first | with_reducible assumption | assumption) (fun _ => wtR_e))) ?_
              refine lv_if_eq (tgt := 159) hx hb dX4_isSweptByMove_154 rfl (fun c_10 => ?_) (fun c_10 => ?_)
              · have c_10 : ¬ (∃ k, k < m2 ∧ ¬ spr n X Y P Q i (U k).toInt (V k).toInt ∧ wtR (X i) (Y i) (P i) (Q i) (P (nxt n i)) (Q (nxt n i)) (U k).toInt (V k).toInt) := zp_0 c_10
                refine lv_iinc (v := nI (i + 1)) (lv' := [(3, .int (nI (i + 1))), (6, .null), (5, .null), (4, .int (nI (nxt n i))), (0, .ref lw), (1, .ref r), (2, .ref u)]) hx hb dX4_isSweptByMove_159 hl (k := 3) rfl (nI_add i 1) (Nat.le_of_ble_eq_true rfl) rfl (fun ls hl => ?_)
                refine lv_goto (tgt := 2) hx hb dX4_isSweptByMove_162 rfl ?_
                exact ih_2 (i + 1) 3 (upd (upd (upd (upd (upd (upd TX1 0 (X i)) 1 (X (nxt n i))) 2 (P (nxt n i))) 0 (X i)) 1 (P i)) 2 (P (nxt n i))) (upd (upd (upd (upd (upd (upd TY1 0 (Y i)) 1 (Y (nxt n i))) 2 (Q (nxt n i))) 0 (Y i)) 1 (Q i)) 2 (Q (nxt n i))) 1 H locs ls (by first | with_reducible assumption | omega) (by first | with_reducible assumption | omega) (by intro j hj k hk; rcases Nat.lt_or_ge j i with h | h; exact hno j h k hk; rw [show j = i by omega]; first | exact (fun h9 => h9.2.elim (fun g => (by (first | with_reducible assumption | assumption) : ¬ (∃ k, k < m2 ∧ ¬ spr n X Y P Q i (U k).toInt (V k).toInt ∧ wtR (X i) (Y i) (X (nxt n i)) (Y (nxt n i)) (P (nxt n i)) (Q (nxt n i)) (U k).toInt (V k).toInt)) ⟨k, hk, h9.1, g⟩) (fun g => (by (first | with_reducible assumption | assumption) : ¬ (∃ k, k < m2 ∧ ¬ spr n X Y P Q i (U k).toInt (V k).toInt ∧ wtR (X i) (Y i) (P i) (Q i) (P (nxt n i)) (Q (nxt n i)) (U k).toInt (V k).toInt)) ⟨k, hk, h9.1, g⟩)) | exact (fun h9 => h9.1 (Or.inl ⟨⟨by omega, by omega⟩, ⟨by omega, by omega⟩⟩))) hP hD hS (lv_sub hl [0, 4, 5, 6] rfl)
              · have c_10 : ∃ k, k < m2 ∧ ¬ spr n X Y P Q i (U k).toInt (V k).toInt ∧ wtR (X i) (Y i) (P i) (Q i) (P (nxt n i)) (Q (nxt n i)) (U k).toInt (V k).toInt := zp_1 c_10
                refine lv_iconst (v := 1) hx hb dX4_isSweptByMove_157 rfl ?_
                obtain ⟨hP9, hD9⟩ := zu_sub (wc := [_, _, _, _, _, _, _, _, _, _, _, _, _]) hP hD [true, true, true, true, true, true, true, true, true, true, true, true, true] rfl rfl
                rw [hQ9]
                exact W.zret (ty := .boolean) (v := 1) hx hb hr (rfl) (fun t ht hW => ⟨⟨congrArg (fun z => Outcome.returned (some (Value.int z))) (show (1 : Int32) = pI (∃ i, i < edg n rg ∧ ∃ k, k < m2 ∧ swR n X Y P Q (U k).toInt (V k).toInt i) from (zp_t (by obtain ⟨k, hk, h1, h2⟩ := (by (first | with_reducible assumption | assumption) : ∃ k, k < m2 ∧ ¬ spr n X Y P Q i (U k).toInt (V k).toInt ∧ wtR (X i) (Y i) (P i) (Q i) (P (nxt n i)) (Q (nxt n i)) (U k).toInt (V k).toInt); exact ⟨i, by omega, k, hk, h1, Or.inr h2⟩)).symm), 3, (upd (upd (upd (upd (upd (upd TX1 0 (X i)) 1 (X (nxt n i))) 2 (P (nxt n i))) 0 (X i)) 1 (P i)) 2 (P (nxt n i))), (upd (upd (upd (upd (upd (upd TY1 0 (Y i)) 1 (Y (nxt n i))) 2 (Q (nxt n i))) 0 (Y i)) 1 (Q i)) 2 (Q (nxt n i))), 1, by rw [ht]; exact hP9, hD9⟩, hS.F ht⟩) hS.2.2 dX4_isSweptByMove_158
            · have c_9 : ∃ k, k < m2 ∧ ¬ spr n X Y P Q i (U k).toInt (V k).toInt ∧ wtR (X i) (Y i) (X (nxt n i)) (Y (nxt n i)) (P (nxt n i)) (Q (nxt n i)) (U k).toInt (V k).toInt := zp_1 c_9
              refine lv_iconst (v := 1) hx hb dX4_isSweptByMove_123 rfl ?_
              obtain ⟨hP9, hD9⟩ := zu_sub (wc := [_, _, _, _, _, _, _, _, _, _, _, _, _]) hP hD [true, true, true, true, true, true, true, true, true, true, true, true, true] rfl rfl
              rw [hQ9]
              exact W.zret (ty := .boolean) (v := 1) hx hb hr (rfl) (fun t ht hW => ⟨⟨congrArg (fun z => Outcome.returned (some (Value.int z))) (show (1 : Int32) = pI (∃ i, i < edg n rg ∧ ∃ k, k < m2 ∧ swR n X Y P Q (U k).toInt (V k).toInt i) from (zp_t (by obtain ⟨k, hk, h1, h2⟩ := (by (first | with_reducible assumption | assumption) : ∃ k, k < m2 ∧ ¬ spr n X Y P Q i (U k).toInt (V k).toInt ∧ wtR (X i) (Y i) (X (nxt n i)) (Y (nxt n i)) (P (nxt n i)) (Q (nxt n i)) (U k).toInt (V k).toInt); exact ⟨i, by omega, k, hk, h1, Or.inl h2⟩)).symm), 3, (upd (upd (upd TX1 0 (X i)) 1 (X (nxt n i))) 2 (P (nxt n i))), (upd (upd (upd TY1 0 (Y i)) 1 (Y (nxt n i))) 2 (Q (nxt n i))), 1, by rw [ht]; exact hP9, hD9⟩, hS.F ht⟩) hS.2.2 dX4_isSweptByMove_124
          · have c_8 : (P (nxt n i)).toInt = (X (nxt n i)).toInt ∧ (Q (nxt n i)).toInt = (Y (nxt n i)).toInt := zp_1 c_8
            refine lv_aload_n hx hb dX4_isSweptByMove_73 rfl (lv_at hl 4 rfl) ?_
            refine lv_goto (tgt := 78) hx hb dX4_isSweptByMove_74 rfl ?_
            refine lv_astore (lv' := [(6, .ref r), (5, .null), (4, .int (nI (nxt n i))), (3, .int (nI i)), (0, .ref lw), (1, .ref r), (2, .ref u)]) hx hb dX4_isSweptByMove_78 hl (Nat.le_of_ble_eq_true rfl) rfl (fun ls hl => ?_)
            refine lv_aloadN hx hb dX4_isSweptByMove_80 (lv_at hl 1 rfl) ?_
            refine lv_ifnullN (tgt := 93) hx hb dX4_isSweptByMove_82 rfl ?_
            refine lv_aload_n hx hb dX4_isSweptByMove_93 rfl (lv_at hl 4 rfl) ?_
            refine lv_aload_n hx hb dX4_isSweptByMove_94 rfl (lv_at hl 5 rfl) ?_
            refine lv_iload_n hx hb dX4_isSweptByMove_95 rfl (lv_at hl 3 rfl) ?_
            refine lv_aload_n hx hb dX4_isSweptByMove_96 rfl (lv_at hl 5 rfl) ?_
            refine lv_iload hx hb dX4_isSweptByMove_97 (lv_at hl 2 rfl) ?_
            refine lv_aload_n hx hb dX4_isSweptByMove_99 rfl (lv_at hl 4 rfl) ?_
            refine va_get (D := (dC, dI)) (ci := 3) (v := .ref dr) (C := RX4) (T := TX4) (N := 6) hx hb hts inX4 hown hK hP 0 rfl rfl 0 (Nat.le_of_ble_eq_true rfl) (hts _ mw_219) (fun _ h9 => h9) rfl dX4_isSweptByMove_100 ?_
            refine lv_iload hx hb dX4_isSweptByMove_103 (lv_at hl 2 rfl) ?_
            obtain ⟨hPc, hDc, hFc⟩ := zo_sub (wc := [_, _, _, _, _, _, _, _, _, _]) hP hD hS hA [0, 1, 2, 3, 7, 8, 9, 4, 5, 6] (by decide +kernel) rfl
            refine zcall (st1 := []) (va_runV (As := [.ref r, .int (nI i), .ref r, .int (nI (nxt n i)), .ref dr, .int (nI (nxt n i))]) (rest := []) ⟨hx, hb, hml, hown, hts⟩ (k_Law_setTriangle_ood l dC dI cI cZ cF H.size lw dr tg wy br bo aa tx ty nt1 TX1 TY1 rt1 r rx ry n cap X Y rg dx dy nd cd P Q rd i (nxt n i) (nxt n i) (by first | with_reducible assumption | omega) (by first | with_reducible assumption | omega) (by first | with_reducible assumption | omega) (by first | with_reducible assumption | omega) (by first | with_reducible assumption | omega) (by first | with_reducible assumption | omega) (by first | with_reducible assumption | omega)) (csV_49 hts rfl rfl ⟨Nat.le_of_ble_eq_true rfl, Nat.le_of_ble_eq_true rfl⟩) (zPV2 (q0 := 0) (ci := 3) hPc hDc hK hXN rfl rfl) rfl rfl hl.1 rfl (lv_room (Nat.le_of_ble_eq_true rfl)) dX4_isSweptByMove_105 ⟨Nat.le_of_ble_eq_true rfl, Nat.le_of_ble_eq_true rfl⟩) hS hFc hFc rfl (fun t H locs ht hB hk1 hS => ?_)
            obtain ⟨hP1, hD1⟩ := hB
            rw [ht] at hP1
            obtain ⟨hP, hD⟩ := zn (W2 := [_, (oc6 tg (.ref tx) (.ref ty) (nI 3) 1), (oa tx cI 3 (upd (upd (upd TX1 0 (X i)) 1 (X (nxt n i))) 2 (P (nxt n i)))), (oa ty cI 3 (upd (upd (upd TY1 0 (Y i)) 1 (Y (nxt n i))) 2 (Q (nxt n i)))), _, _, _, _, _, _, _, _, _]) hP hD hk1 hFc hP1 hD1 zl_13 zl_14 zl_14 zl_13 (by decide +kernel) rfl rfl rfl rfl rfl
            clear hk1 hPc hDc hFc hP1 hD1 ht
            refine lv_aload_n hx hb dX4_isSweptByMove_108 rfl (lv_at hl 4 rfl) ?_
            refine lv_aload_n hx hb dX4_isSweptByMove_109 rfl (lv_at hl 6 rfl) ?_
            refine lv_aloadN hx hb dX4_isSweptByMove_110 (lv_at hl 1 rfl) ?_
            refine lv_iload_n hx hb dX4_isSweptByMove_112 rfl (lv_at hl 3 rfl) ?_
            refine lv_aload hx hb dX4_isSweptByMove_113 (lv_at hl 0 rfl) ?_
            refine lv_iload hx hb dX4_isSweptByMove_115 (lv_at hl 2 rfl) ?_
            obtain ⟨hPc, hDc, hFc, hI1⟩ := zi_sub (wc := [_, _, _, _, _, _, _, _, _, _]) hP hD hS hA [0, 1, 2, 3, 10, 11, 12, 7, 8, 9] (by decide +kernel) rfl
            refine zcall (st1 := [.int (pI (∃ j7, j7 < m2 ∧ ¬ ((X (nxt n i)).toInt = (U j7).toInt ∧ (Y (nxt n i)).toInt = (V j7).toInt) ∧ ¬ (whr 3 (upd (upd (upd TX1 0 (X i)) 1 (X (nxt n i))) 2 (P (nxt n i))) (upd (upd (upd TY1 0 (Y i)) 1 (Y (nxt n i))) 2 (Q (nxt n i))) (U j7).toInt (V j7).toInt).toInt = 0))]) (va_runV (As := [.ref u, .null, .int (nI i), .ref r, .int (nI (nxt n i))]) (rest := []) ⟨hx, hb, hml, hown, hts⟩ (k_Law_holdsCorner_nr l dC dI cI cZ cF H.size lw dr tg wy br bo aa tx ty (upd (upd (upd TX1 0 (X i)) 1 (X (nxt n i))) 2 (P (nxt n i))) (upd (upd (upd TY1 0 (Y i)) 1 (Y (nxt n i))) 2 (Q (nxt n i))) u ux uy m2 cap2 U V rh r rx ry n cap X Y rg i (nxt n i) (by first | with_reducible assumption | omega) (by first | with_reducible assumption | omega) (by first | with_reducible assumption | omega) (by first | with_reducible assumption | omega) (hq) (tr3_pl (hp _ hin).1 (hp _ hin).2 (hp _ hnx).1 (hp _ hnx).2 (hpd _ hnd9).1 (hpd _ hnd9).2) (by first | with_reducible assumption | omega)) (csV_50 hts rfl rfl ⟨Nat.le_of_ble_eq_true rfl, Nat.le_of_ble_eq_true rfl⟩) (zPV2 (q0 := 0) (ci := 3) hPc hDc hK hXN rfl rfl) rfl rfl hl.1 rfl (lv_room (Nat.le_of_ble_eq_true rfl)) dX4_isSweptByMove_117 ⟨Nat.le_of_ble_eq_true rfl, Nat.le_of_ble_eq_true rfl⟩) hS hFc hFc rfl (fun t H locs ht hB hk1 hS => ?_)
            obtain ⟨hP1, hD1⟩ := hB
            rw [ht] at hP1
            replace hP := z0 hP hD hk1 hP1 hI1
            clear hk1 hPc hDc hFc hP1 hD1 ht hI1
            refine zz_i (v := pI (∃ k, k < m2 ∧ ¬ spr n X Y P Q i (U k).toInt (V k).toInt ∧ wtR (X i) (Y i) (X (nxt n i)) (Y (nxt n i)) (P (nxt n i)) (Q (nxt n i)) (U k).toInt (V k).toInt)) (zp_iff (sp_nr (by first | with_reducible assumption | assumption) (by first | with_reducible assumption | assumption) (fun _ => wtR_e))) ?_
            refine lv_if_eq (tgt := 125) hx hb dX4_isSweptByMove_120 rfl (fun c_11 => ?_) (fun c_11 => ?_)
            · have c_11 : ¬ (∃ k, k < m2 ∧ ¬ spr n X Y P Q i (U k).toInt (V k).toInt ∧ wtR (X i) (Y i) (X (nxt n i)) (Y (nxt n i)) (P (nxt n i)) (Q (nxt n i)) (U k).toInt (V k).toInt) := zp_0 c_11
              refine lv_aload_n hx hb dX4_isSweptByMove_125 rfl (lv_at hl 4 rfl) ?_
              refine lv_aload_n hx hb dX4_isSweptByMove_126 rfl (lv_at hl 5 rfl) ?_
              refine lv_iload_n hx hb dX4_isSweptByMove_127 rfl (lv_at hl 3 rfl) ?_
              refine lv_aload_n hx hb dX4_isSweptByMove_128 rfl (lv_at hl 4 rfl) ?_
              refine va_get (D := (dC, dI)) (ci := 3) (v := .ref dr) (C := RX4) (T := TX4) (N := 6) hx hb hts inX4 hown hK hP 0 rfl rfl 0 (Nat.le_of_ble_eq_true rfl) (hts _ mw_219) (fun _ h9 => h9) rfl dX4_isSweptByMove_129 ?_
              refine lv_iload_n hx hb dX4_isSweptByMove_132 rfl (lv_at hl 3 rfl) ?_
              refine lv_aload_n hx hb dX4_isSweptByMove_133 rfl (lv_at hl 4 rfl) ?_
              refine va_get (D := (dC, dI)) (ci := 3) (v := .ref dr) (C := RX4) (T := TX4) (N := 6) hx hb hts inX4 hown hK hP 0 rfl rfl 0 (Nat.le_of_ble_eq_true rfl) (hts _ mw_219) (fun _ h9 => h9) rfl dX4_isSweptByMove_134 ?_
              refine lv_iload hx hb dX4_isSweptByMove_137 (lv_at hl 2 rfl) ?_
              obtain ⟨hPc, hDc, hFc⟩ := zo_sub (wc := [_, _, _, _, _, _, _, _, _, _]) hP hD hS hA [0, 1, 2, 3, 7, 8, 9, 4, 5, 6] (by decide +kernel) rfl
              refine zcall (st1 := []) (va_runV (As := [.ref r, .int (nI i), .ref dr, .int (nI i), .ref dr, .int (nI (nxt n i))]) (rest := []) ⟨hx, hb, hml, hown, hts⟩ (k_Law_setTriangle_odd l dC dI cI cZ cF H.size lw dr tg wy br bo aa tx ty 3 (upd (upd (upd TX1 0 (X i)) 1 (X (nxt n i))) 2 (P (nxt n i))) (upd (upd (upd TY1 0 (Y i)) 1 (Y (nxt n i))) 2 (Q (nxt n i))) 1 r rx ry n cap X Y rg dx dy nd cd P Q rd i i (nxt n i) (by first | with_reducible assumption | omega) (by first | with_reducible assumption | omega) (by first | with_reducible assumption | omega) (by first | with_reducible assumption | omega) (by first | with_reducible assumption | omega) (by first | with_reducible assumption | omega) (by first | with_reducible assumption | omega)) (csV_49 hts rfl rfl ⟨Nat.le_of_ble_eq_true rfl, Nat.le_of_ble_eq_true rfl⟩) (zPV2 (q0 := 0) (ci := 3) hPc hDc hK hXN rfl rfl) rfl rfl hl.1 rfl (lv_room (Nat.le_of_ble_eq_true rfl)) dX4_isSweptByMove_139 ⟨Nat.le_of_ble_eq_true rfl, Nat.le_of_ble_eq_true rfl⟩) hS hFc hFc rfl (fun t H locs ht hB hk1 hS => ?_)
              obtain ⟨hP1, hD1⟩ := hB
              rw [ht] at hP1
              obtain ⟨hP, hD⟩ := zn (W2 := [_, _, (oa tx cI 3 (upd (upd (upd (upd (upd (upd TX1 0 (X i)) 1 (X (nxt n i))) 2 (P (nxt n i))) 0 (X i)) 1 (P i)) 2 (P (nxt n i)))), (oa ty cI 3 (upd (upd (upd (upd (upd (upd TY1 0 (Y i)) 1 (Y (nxt n i))) 2 (Q (nxt n i))) 0 (Y i)) 1 (Q i)) 2 (Q (nxt n i)))), _, _, _, _, _, _, _, _, _]) hP hD hk1 hFc hP1 hD1 zl_13 zl_14 zl_14 zl_13 (by decide +kernel) rfl rfl rfl rfl rfl
              clear hk1 hPc hDc hFc hP1 hD1 ht
              refine lv_aload_n hx hb dX4_isSweptByMove_142 rfl (lv_at hl 4 rfl) ?_
              refine lv_aload_n hx hb dX4_isSweptByMove_143 rfl (lv_at hl 6 rfl) ?_
              refine lv_aloadN hx hb dX4_isSweptByMove_144 (lv_at hl 1 rfl) ?_
              refine lv_iload_n hx hb dX4_isSweptByMove_146 rfl (lv_at hl 3 rfl) ?_
              refine lv_aload hx hb dX4_isSweptByMove_147 (lv_at hl 0 rfl) ?_
              refine lv_iload hx hb dX4_isSweptByMove_149 (lv_at hl 2 rfl) ?_
              obtain ⟨hPc, hDc, hFc, hI1⟩ := zi_sub (wc := [_, _, _, _, _, _, _, _, _, _]) hP hD hS hA [0, 1, 2, 3, 10, 11, 12, 7, 8, 9] (by decide +kernel) rfl
              refine zcall (st1 := [.int (pI (∃ j7, j7 < m2 ∧ ¬ ((X (nxt n i)).toInt = (U j7).toInt ∧ (Y (nxt n i)).toInt = (V j7).toInt) ∧ ¬ (whr 3 (upd (upd (upd (upd (upd (upd TX1 0 (X i)) 1 (X (nxt n i))) 2 (P (nxt n i))) 0 (X i)) 1 (P i)) 2 (P (nxt n i))) (upd (upd (upd (upd (upd (upd TY1 0 (Y i)) 1 (Y (nxt n i))) 2 (Q (nxt n i))) 0 (Y i)) 1 (Q i)) 2 (Q (nxt n i))) (U j7).toInt (V j7).toInt).toInt = 0))]) (va_runV (As := [.ref u, .null, .int (nI i), .ref r, .int (nI (nxt n i))]) (rest := []) ⟨hx, hb, hml, hown, hts⟩ (k_Law_holdsCorner_nr l dC dI cI cZ cF H.size lw dr tg wy br bo aa tx ty (upd (upd (upd (upd (upd (upd TX1 0 (X i)) 1 (X (nxt n i))) 2 (P (nxt n i))) 0 (X i)) 1 (P i)) 2 (P (nxt n i))) (upd (upd (upd (upd (upd (upd TY1 0 (Y i)) 1 (Y (nxt n i))) 2 (Q (nxt n i))) 0 (Y i)) 1 (Q i)) 2 (Q (nxt n i))) u ux uy m2 cap2 U V rh r rx ry n cap X Y rg i (nxt n i) (by first | with_reducible assumption | omega) (by first | with_reducible assumption | omega) (by first | with_reducible assumption | omega) (by first | with_reducible assumption | omega) (hq) (tr3_pl (hp _ hin).1 (hp _ hin).2 (hpd _ hid9).1 (hpd _ hid9).2 (hpd _ hnd9).1 (hpd _ hnd9).2) (by first | with_reducible assumption | omega)) (csV_50 hts rfl rfl ⟨Nat.le_of_ble_eq_true rfl, Nat.le_of_ble_eq_true rfl⟩) (zPV2 (q0 := 0) (ci := 3) hPc hDc hK hXN rfl rfl) rfl rfl hl.1 rfl (lv_room (Nat.le_of_ble_eq_true rfl)) dX4_isSweptByMove_151 ⟨Nat.le_of_ble_eq_true rfl, Nat.le_of_ble_eq_true rfl⟩) hS hFc hFc rfl (fun t H locs ht hB hk1 hS => ?_)
              obtain ⟨hP1, hD1⟩ := hB
              rw [ht] at hP1
              replace hP := z0 hP hD hk1 hP1 hI1
              clear hk1 hPc hDc hFc hP1 hD1 ht hI1
              refine zz_i (v := pI (∃ k, k < m2 ∧ ¬ spr n X Y P Q i (U k).toInt (V k).toInt ∧ wtR (X i) (Y i) (P i) (Q i) (P (nxt n i)) (Q (nxt n i)) (U k).toInt (V k).toInt)) (zp_iff (sp_nr (by first | with_reducible assumption | assumption) (by first | with_reducible assumption | assumption) (fun _ => wtR_e))) ?_
              refine lv_if_eq (tgt := 159) hx hb dX4_isSweptByMove_154 rfl (fun c_12 => ?_) (fun c_12 => ?_)
              · have c_12 : ¬ (∃ k, k < m2 ∧ ¬ spr n X Y P Q i (U k).toInt (V k).toInt ∧ wtR (X i) (Y i) (P i) (Q i) (P (nxt n i)) (Q (nxt n i)) (U k).toInt (V k).toInt) := zp_0 c_12
                refine lv_iinc (v := nI (i + 1)) (lv' := [(3, .int (nI (i + 1))), (6, .ref r), (5, .null), (4, .int (nI (nxt n i))), (0, .ref lw), (1, .ref r), (2, .ref u)]) hx hb dX4_isSweptByMove_159 hl (k := 3) rfl (nI_add i 1) (Nat.le_of_ble_eq_true rfl) rfl (fun ls hl => ?_)
                refine lv_goto (tgt := 2) hx hb dX4_isSweptByMove_162 rfl ?_
                exact ih_2 (i + 1) 3 (upd (upd (upd (upd (upd (upd TX1 0 (X i)) 1 (X (nxt n i))) 2 (P (nxt n i))) 0 (X i)) 1 (P i)) 2 (P (nxt n i))) (upd (upd (upd (upd (upd (upd TY1 0 (Y i)) 1 (Y (nxt n i))) 2 (Q (nxt n i))) 0 (Y i)) 1 (Q i)) 2 (Q (nxt n i))) 1 H locs ls (by first | with_reducible assumption | omega) (by first | with_reducible assumption | omega) (by intro j hj k hk; rcases Nat.lt_or_ge j i with h | h; exact hno j h k hk; rw [show j = i by omega]; first | exact (fun h9 => h9.2.elim (fun g => (by (first | with_reducible assumption | assumption) : ¬ (∃ k, k < m2 ∧ ¬ spr n X Y P Q i (U k).toInt (V k).toInt ∧ wtR (X i) (Y i) (X (nxt n i)) (Y (nxt n i)) (P (nxt n i)) (Q (nxt n i)) (U k).toInt (V k).toInt)) ⟨k, hk, h9.1, g⟩) (fun g => (by (first | with_reducible assumption | assumption) : ¬ (∃ k, k < m2 ∧ ¬ spr n X Y P Q i (U k).toInt (V k).toInt ∧ wtR (X i) (Y i) (P i) (Q i) (P (nxt n i)) (Q (nxt n i)) (U k).toInt (V k).toInt)) ⟨k, hk, h9.1, g⟩)) | exact (fun h9 => h9.1 (Or.inl ⟨⟨by omega, by omega⟩, ⟨by omega, by omega⟩⟩))) hP hD hS (lv_sub hl [0, 4, 5, 6] rfl)
              · have c_12 : ∃ k, k < m2 ∧ ¬ spr n X Y P Q i (U k).toInt (V k).toInt ∧ wtR (X i) (Y i) (P i) (Q i) (P (nxt n i)) (Q (nxt n i)) (U k).toInt (V k).toInt := zp_1 c_12
                refine lv_iconst (v := 1) hx hb dX4_isSweptByMove_157 rfl ?_
                obtain ⟨hP9, hD9⟩ := zu_sub (wc := [_, _, _, _, _, _, _, _, _, _, _, _, _]) hP hD [true, true, true, true, true, true, true, true, true, true, true, true, true] rfl rfl
                rw [hQ9]
                exact W.zret (ty := .boolean) (v := 1) hx hb hr (rfl) (fun t ht hW => ⟨⟨congrArg (fun z => Outcome.returned (some (Value.int z))) (show (1 : Int32) = pI (∃ i, i < edg n rg ∧ ∃ k, k < m2 ∧ swR n X Y P Q (U k).toInt (V k).toInt i) from (zp_t (by obtain ⟨k, hk, h1, h2⟩ := (by (first | with_reducible assumption | assumption) : ∃ k, k < m2 ∧ ¬ spr n X Y P Q i (U k).toInt (V k).toInt ∧ wtR (X i) (Y i) (P i) (Q i) (P (nxt n i)) (Q (nxt n i)) (U k).toInt (V k).toInt); exact ⟨i, by omega, k, hk, h1, Or.inr h2⟩)).symm), 3, (upd (upd (upd (upd (upd (upd TX1 0 (X i)) 1 (X (nxt n i))) 2 (P (nxt n i))) 0 (X i)) 1 (P i)) 2 (P (nxt n i))), (upd (upd (upd (upd (upd (upd TY1 0 (Y i)) 1 (Y (nxt n i))) 2 (Q (nxt n i))) 0 (Y i)) 1 (Q i)) 2 (Q (nxt n i))), 1, by rw [ht]; exact hP9, hD9⟩, hS.F ht⟩) hS.2.2 dX4_isSweptByMove_158
            · have c_11 : ∃ k, k < m2 ∧ ¬ spr n X Y P Q i (U k).toInt (V k).toInt ∧ wtR (X i) (Y i) (X (nxt n i)) (Y (nxt n i)) (P (nxt n i)) (Q (nxt n i)) (U k).toInt (V k).toInt := zp_1 c_11
              refine lv_iconst (v := 1) hx hb dX4_isSweptByMove_123 rfl ?_
              obtain ⟨hP9, hD9⟩ := zu_sub (wc := [_, _, _, _, _, _, _, _, _, _, _, _, _]) hP hD [true, true, true, true, true, true, true, true, true, true, true, true, true] rfl rfl
              rw [hQ9]
              exact W.zret (ty := .boolean) (v := 1) hx hb hr (rfl) (fun t ht hW => ⟨⟨congrArg (fun z => Outcome.returned (some (Value.int z))) (show (1 : Int32) = pI (∃ i, i < edg n rg ∧ ∃ k, k < m2 ∧ swR n X Y P Q (U k).toInt (V k).toInt i) from (zp_t (by obtain ⟨k, hk, h1, h2⟩ := (by (first | with_reducible assumption | assumption) : ∃ k, k < m2 ∧ ¬ spr n X Y P Q i (U k).toInt (V k).toInt ∧ wtR (X i) (Y i) (X (nxt n i)) (Y (nxt n i)) (P (nxt n i)) (Q (nxt n i)) (U k).toInt (V k).toInt); exact ⟨i, by omega, k, hk, h1, Or.inl h2⟩)).symm), 3, (upd (upd (upd TX1 0 (X i)) 1 (X (nxt n i))) 2 (P (nxt n i))), (upd (upd (upd TY1 0 (Y i)) 1 (Y (nxt n i))) 2 (Q (nxt n i))), 1, by rw [ht]; exact hP9, hD9⟩, hS.F ht⟩) hS.2.2 dX4_isSweptByMove_124
        · have c_6 : (P i).toInt = (X i).toInt ∧ (Q i).toInt = (Y i).toInt := zp_1 c_6
          refine lv_aload_n hx hb dX4_isSweptByMove_40 rfl (lv_at hl 3 rfl) ?_
          refine lv_goto (tgt := 45) hx hb dX4_isSweptByMove_41 rfl ?_
          refine lv_astore (lv' := [(5, .ref r), (4, .int (nI (nxt n i))), (3, .int (nI i)), (0, .ref lw), (1, .ref r), (2, .ref u)]) hx hb dX4_isSweptByMove_45 hl (Nat.le_of_ble_eq_true rfl) rfl (fun ls hl => ?_)
          refine lv_aload_n hx hb dX4_isSweptByMove_47 rfl (lv_at hl 3 rfl) ?_
          refine va_get (D := (dC, dI)) (ci := 3) (v := .ref dr) (C := RX4) (T := TX4) (N := 6) hx hb hts inX4 hown hK hP 0 rfl rfl 0 (Nat.le_of_ble_eq_true rfl) (hts _ mw_219) (fun _ h9 => h9) rfl dX4_isSweptByMove_48 ?_
          refine lv_iload hx hb dX4_isSweptByMove_51 (lv_at hl 1 rfl) ?_
          refine lv_aload_n hx hb dX4_isSweptByMove_53 rfl (lv_at hl 4 rfl) ?_
          refine va_get (D := (dC, dI)) (ci := 6) (v := .ref rx) (C := RX7) (T := TX7) (N := 4) hx hb hts inX7 hown hK hP 7 rfl rfl 0 (Nat.le_of_ble_eq_true rfl) (hts _ mw_163) (fun _ h9 => h9) rfl dX4_isSweptByMove_54 ?_
          refine lv_iload hx hb dX4_isSweptByMove_57 (lv_at hl 1 rfl) ?_
          have b9_13 : nxt n i < cap := by omega
          refine z_iald hx hb hK hP 8 0 rfl rfl (e := nxt n i) rfl b9_13 b9_5 dX4_isSweptByMove_59 ?_
          refine lv_aload_n hx hb dX4_isSweptByMove_60 rfl (lv_at hl 4 rfl) ?_
          refine va_get (D := (dC, dI)) (ci := 6) (v := .ref ry) (C := RX7) (T := TX7) (N := 4) hx hb hts inX7 hown hK hP 7 rfl rfl 1 (Nat.le_of_ble_eq_true rfl) (hts _ mw_170) (fun _ h9 => h9) rfl dX4_isSweptByMove_61 ?_
          refine lv_iload hx hb dX4_isSweptByMove_64 (lv_at hl 1 rfl) ?_
          refine z_iald hx hb hK hP 9 0 rfl rfl (e := nxt n i) rfl b9_13 b9_5 dX4_isSweptByMove_66 ?_
          obtain ⟨hPc, hDc, hFc, hI1⟩ := zi_sub (wc := [_, _, _]) hP hD hS hA [4, 5, 6] rfl rfl
          refine zcall (st1 := [.int (pI ((P (nxt n i)).toInt = (X (nxt n i)).toInt ∧ (Q (nxt n i)).toInt = (Y (nxt n i)).toInt))]) (va_runV (As := [.int (nI (nxt n i)), .int (X (nxt n i)), .int (Y (nxt n i))]) (rest := []) ⟨hx, hb, hml, hown, hts⟩ (k_Row_isCorner l dC dI cI cZ cF H.size dr dx dy nd cd P Q rd (nxt n i) (X (nxt n i)) (Y (nxt n i)) (by first | with_reducible assumption | omega) (by first | with_reducible assumption | omega) (by first | with_reducible assumption | omega)) (csV_47 hts rfl rfl ⟨Nat.le_of_ble_eq_true rfl, Nat.le_of_ble_eq_true rfl⟩) (zPV2 (q0 := 0) (ci := 6) hPc hDc hK hXN rfl rfl) rfl rfl hl.1 rfl (lv_room (Nat.le_of_ble_eq_true rfl)) dX4_isSweptByMove_67 ⟨Nat.le_of_ble_eq_true rfl, Nat.le_of_ble_eq_true rfl⟩) hS hFc hFc rfl (fun t H locs ht hB hk1 hS => ?_)
          obtain ⟨hP1, hD1⟩ := hB
          rw [ht] at hP1
          replace hP := z0 hP hD hk1 hP1 hI1
          clear hk1 hPc hDc hFc hP1 hD1 ht hI1
          refine lv_if_eq (tgt := 77) hx hb dX4_isSweptByMove_70 rfl (fun c_14 => ?_) (fun c_14 => ?_)
          · have c_14 : ¬ ((P (nxt n i)).toInt = (X (nxt n i)).toInt ∧ (Q (nxt n i)).toInt = (Y (nxt n i)).toInt) := zp_0 c_14
            refine lv_null hx hb dX4_isSweptByMove_77 ?_
            refine lv_astoreN (lv' := [(6, .null), (5, .ref r), (4, .int (nI (nxt n i))), (3, .int (nI i)), (0, .ref lw), (1, .ref r), (2, .ref u)]) hx hb dX4_isSweptByMove_78 hl (Nat.le_of_ble_eq_true rfl) rfl (fun ls hl => ?_)
            refine lv_aload hx hb dX4_isSweptByMove_80 (lv_at hl 1 rfl) ?_
            refine lv_ifnull hx hb dX4_isSweptByMove_82 ?_
            refine lv_aloadN hx hb dX4_isSweptByMove_85 (lv_at hl 0 rfl) ?_
            refine lv_ifnullN (tgt := 93) hx hb dX4_isSweptByMove_87 rfl ?_
            refine lv_aload_n hx hb dX4_isSweptByMove_93 rfl (lv_at hl 4 rfl) ?_
            refine lv_aload_n hx hb dX4_isSweptByMove_94 rfl (lv_at hl 5 rfl) ?_
            refine lv_iload_n hx hb dX4_isSweptByMove_95 rfl (lv_at hl 3 rfl) ?_
            refine lv_aload_n hx hb dX4_isSweptByMove_96 rfl (lv_at hl 5 rfl) ?_
            refine lv_iload hx hb dX4_isSweptByMove_97 (lv_at hl 2 rfl) ?_
            refine lv_aload_n hx hb dX4_isSweptByMove_99 rfl (lv_at hl 4 rfl) ?_
            refine va_get (D := (dC, dI)) (ci := 3) (v := .ref dr) (C := RX4) (T := TX4) (N := 6) hx hb hts inX4 hown hK hP 0 rfl rfl 0 (Nat.le_of_ble_eq_true rfl) (hts _ mw_219) (fun _ h9 => h9) rfl dX4_isSweptByMove_100 ?_
            refine lv_iload hx hb dX4_isSweptByMove_103 (lv_at hl 2 rfl) ?_
            obtain ⟨hPc, hDc, hFc⟩ := zo_sub (wc := [_, _, _, _, _, _, _, _, _, _]) hP hD hS hA [0, 1, 2, 3, 7, 8, 9, 4, 5, 6] (by decide +kernel) rfl
            refine zcall (st1 := []) (va_runV (As := [.ref r, .int (nI i), .ref r, .int (nI (nxt n i)), .ref dr, .int (nI (nxt n i))]) (rest := []) ⟨hx, hb, hml, hown, hts⟩ (k_Law_setTriangle_ood l dC dI cI cZ cF H.size lw dr tg wy br bo aa tx ty nt1 TX1 TY1 rt1 r rx ry n cap X Y rg dx dy nd cd P Q rd i (nxt n i) (nxt n i) (by first | with_reducible assumption | omega) (by first | with_reducible assumption | omega) (by first | with_reducible assumption | omega) (by first | with_reducible assumption | omega) (by first | with_reducible assumption | omega) (by first | with_reducible assumption | omega) (by first | with_reducible assumption | omega)) (csV_49 hts rfl rfl ⟨Nat.le_of_ble_eq_true rfl, Nat.le_of_ble_eq_true rfl⟩) (zPV2 (q0 := 0) (ci := 3) hPc hDc hK hXN rfl rfl) rfl rfl hl.1 rfl (lv_room (Nat.le_of_ble_eq_true rfl)) dX4_isSweptByMove_105 ⟨Nat.le_of_ble_eq_true rfl, Nat.le_of_ble_eq_true rfl⟩) hS hFc hFc rfl (fun t H locs ht hB hk1 hS => ?_)
            obtain ⟨hP1, hD1⟩ := hB
            rw [ht] at hP1
            obtain ⟨hP, hD⟩ := zn (W2 := [_, (oc6 tg (.ref tx) (.ref ty) (nI 3) 1), (oa tx cI 3 (upd (upd (upd TX1 0 (X i)) 1 (X (nxt n i))) 2 (P (nxt n i)))), (oa ty cI 3 (upd (upd (upd TY1 0 (Y i)) 1 (Y (nxt n i))) 2 (Q (nxt n i)))), _, _, _, _, _, _, _, _, _]) hP hD hk1 hFc hP1 hD1 zl_13 zl_14 zl_14 zl_13 (by decide +kernel) rfl rfl rfl rfl rfl
            clear hk1 hPc hDc hFc hP1 hD1 ht
            refine lv_aload_n hx hb dX4_isSweptByMove_108 rfl (lv_at hl 4 rfl) ?_
            refine lv_aload_n hx hb dX4_isSweptByMove_109 rfl (lv_at hl 6 rfl) ?_
            refine lv_aload hx hb dX4_isSweptByMove_110 (lv_at hl 1 rfl) ?_
            refine lv_iload_n hx hb dX4_isSweptByMove_112 rfl (lv_at hl 3 rfl) ?_
            refine lv_aloadN hx hb dX4_isSweptByMove_113 (lv_at hl 0 rfl) ?_
            refine lv_iload hx hb dX4_isSweptByMove_115 (lv_at hl 2 rfl) ?_
            obtain ⟨hPc, hDc, hFc, hI1⟩ := zi_sub (wc := [_, _, _, _, _, _, _, _, _, _]) hP hD hS hA [0, 1, 2, 3, 10, 11, 12, 7, 8, 9] (by decide +kernel) rfl
            refine zcall (st1 := [.int (pI (∃ j7, j7 < m2 ∧ ¬ ((X i).toInt = (U j7).toInt ∧ (Y i).toInt = (V j7).toInt) ∧ ¬ (whr 3 (upd (upd (upd TX1 0 (X i)) 1 (X (nxt n i))) 2 (P (nxt n i))) (upd (upd (upd TY1 0 (Y i)) 1 (Y (nxt n i))) 2 (Q (nxt n i))) (U j7).toInt (V j7).toInt).toInt = 0))]) (va_runV (As := [.ref u, .ref r, .int (nI i), .null, .int (nI (nxt n i))]) (rest := []) ⟨hx, hb, hml, hown, hts⟩ (k_Law_holdsCorner_rn l dC dI cI cZ cF H.size lw dr tg wy br bo aa tx ty (upd (upd (upd TX1 0 (X i)) 1 (X (nxt n i))) 2 (P (nxt n i))) (upd (upd (upd TY1 0 (Y i)) 1 (Y (nxt n i))) 2 (Q (nxt n i))) u ux uy m2 cap2 U V rh r rx ry n cap X Y rg i (nxt n i) (by first | with_reducible assumption | omega) (by first | with_reducible assumption | omega) (by first | with_reducible assumption | omega) (by first | with_reducible assumption | omega) (hq) (tr3_pl (hp _ hin).1 (hp _ hin).2 (hp _ hnx).1 (hp _ hnx).2 (hpd _ hnd9).1 (hpd _ hnd9).2) (by first | with_reducible assumption | omega)) (csV_50 hts rfl rfl ⟨Nat.le_of_ble_eq_true rfl, Nat.le_of_ble_eq_true rfl⟩) (zPV2 (q0 := 0) (ci := 3) hPc hDc hK hXN rfl rfl) rfl rfl hl.1 rfl (lv_room (Nat.le_of_ble_eq_true rfl)) dX4_isSweptByMove_117 ⟨Nat.le_of_ble_eq_true rfl, Nat.le_of_ble_eq_true rfl⟩) hS hFc hFc rfl (fun t H locs ht hB hk1 hS => ?_)
            obtain ⟨hP1, hD1⟩ := hB
            rw [ht] at hP1
            replace hP := z0 hP hD hk1 hP1 hI1
            clear hk1 hPc hDc hFc hP1 hD1 ht hI1
            refine zz_i (v := pI (∃ k, k < m2 ∧ ¬ spr n X Y P Q i (U k).toInt (V k).toInt ∧ wtR (X i) (Y i) (X (nxt n i)) (Y (nxt n i)) (P (nxt n i)) (Q (nxt n i)) (U k).toInt (V k).toInt)) (zp_iff (sp_rn (by first | with_reducible assumption | assumption) (by first | with_reducible assumption | assumption) (fun _ => wtR_e))) ?_
            refine lv_if_eq (tgt := 125) hx hb dX4_isSweptByMove_120 rfl (fun c_15 => ?_) (fun c_15 => ?_)
            · have c_15 : ¬ (∃ k, k < m2 ∧ ¬ spr n X Y P Q i (U k).toInt (V k).toInt ∧ wtR (X i) (Y i) (X (nxt n i)) (Y (nxt n i)) (P (nxt n i)) (Q (nxt n i)) (U k).toInt (V k).toInt) := zp_0 c_15
              refine lv_aload_n hx hb dX4_isSweptByMove_125 rfl (lv_at hl 4 rfl) ?_
              refine lv_aload_n hx hb dX4_isSweptByMove_126 rfl (lv_at hl 5 rfl) ?_
              refine lv_iload_n hx hb dX4_isSweptByMove_127 rfl (lv_at hl 3 rfl) ?_
              refine lv_aload_n hx hb dX4_isSweptByMove_128 rfl (lv_at hl 4 rfl) ?_
              refine va_get (D := (dC, dI)) (ci := 3) (v := .ref dr) (C := RX4) (T := TX4) (N := 6) hx hb hts inX4 hown hK hP 0 rfl rfl 0 (Nat.le_of_ble_eq_true rfl) (hts _ mw_219) (fun _ h9 => h9) rfl dX4_isSweptByMove_129 ?_
              refine lv_iload_n hx hb dX4_isSweptByMove_132 rfl (lv_at hl 3 rfl) ?_
              refine lv_aload_n hx hb dX4_isSweptByMove_133 rfl (lv_at hl 4 rfl) ?_
              refine va_get (D := (dC, dI)) (ci := 3) (v := .ref dr) (C := RX4) (T := TX4) (N := 6) hx hb hts inX4 hown hK hP 0 rfl rfl 0 (Nat.le_of_ble_eq_true rfl) (hts _ mw_219) (fun _ h9 => h9) rfl dX4_isSweptByMove_134 ?_
              refine lv_iload hx hb dX4_isSweptByMove_137 (lv_at hl 2 rfl) ?_
              obtain ⟨hPc, hDc, hFc⟩ := zo_sub (wc := [_, _, _, _, _, _, _, _, _, _]) hP hD hS hA [0, 1, 2, 3, 7, 8, 9, 4, 5, 6] (by decide +kernel) rfl
              refine zcall (st1 := []) (va_runV (As := [.ref r, .int (nI i), .ref dr, .int (nI i), .ref dr, .int (nI (nxt n i))]) (rest := []) ⟨hx, hb, hml, hown, hts⟩ (k_Law_setTriangle_odd l dC dI cI cZ cF H.size lw dr tg wy br bo aa tx ty 3 (upd (upd (upd TX1 0 (X i)) 1 (X (nxt n i))) 2 (P (nxt n i))) (upd (upd (upd TY1 0 (Y i)) 1 (Y (nxt n i))) 2 (Q (nxt n i))) 1 r rx ry n cap X Y rg dx dy nd cd P Q rd i i (nxt n i) (by first | with_reducible assumption | omega) (by first | with_reducible assumption | omega) (by first | with_reducible assumption | omega) (by first | with_reducible assumption | omega) (by first | with_reducible assumption | omega) (by first | with_reducible assumption | omega) (by first | with_reducible assumption | omega)) (csV_49 hts rfl rfl ⟨Nat.le_of_ble_eq_true rfl, Nat.le_of_ble_eq_true rfl⟩) (zPV2 (q0 := 0) (ci := 3) hPc hDc hK hXN rfl rfl) rfl rfl hl.1 rfl (lv_room (Nat.le_of_ble_eq_true rfl)) dX4_isSweptByMove_139 ⟨Nat.le_of_ble_eq_true rfl, Nat.le_of_ble_eq_true rfl⟩) hS hFc hFc rfl (fun t H locs ht hB hk1 hS => ?_)
              obtain ⟨hP1, hD1⟩ := hB
              rw [ht] at hP1
              obtain ⟨hP, hD⟩ := zn (W2 := [_, _, (oa tx cI 3 (upd (upd (upd (upd (upd (upd TX1 0 (X i)) 1 (X (nxt n i))) 2 (P (nxt n i))) 0 (X i)) 1 (P i)) 2 (P (nxt n i)))), (oa ty cI 3 (upd (upd (upd (upd (upd (upd TY1 0 (Y i)) 1 (Y (nxt n i))) 2 (Q (nxt n i))) 0 (Y i)) 1 (Q i)) 2 (Q (nxt n i)))), _, _, _, _, _, _, _, _, _]) hP hD hk1 hFc hP1 hD1 zl_13 zl_14 zl_14 zl_13 (by decide +kernel) rfl rfl rfl rfl rfl
              clear hk1 hPc hDc hFc hP1 hD1 ht
              refine lv_aload_n hx hb dX4_isSweptByMove_142 rfl (lv_at hl 4 rfl) ?_
              refine lv_aload_n hx hb dX4_isSweptByMove_143 rfl (lv_at hl 6 rfl) ?_
              refine lv_aload hx hb dX4_isSweptByMove_144 (lv_at hl 1 rfl) ?_
              refine lv_iload_n hx hb dX4_isSweptByMove_146 rfl (lv_at hl 3 rfl) ?_
              refine lv_aloadN hx hb dX4_isSweptByMove_147 (lv_at hl 0 rfl) ?_
              refine lv_iload hx hb dX4_isSweptByMove_149 (lv_at hl 2 rfl) ?_
              obtain ⟨hPc, hDc, hFc, hI1⟩ := zi_sub (wc := [_, _, _, _, _, _, _, _, _, _]) hP hD hS hA [0, 1, 2, 3, 10, 11, 12, 7, 8, 9] (by decide +kernel) rfl
              refine zcall (st1 := [.int (pI (∃ j7, j7 < m2 ∧ ¬ ((X i).toInt = (U j7).toInt ∧ (Y i).toInt = (V j7).toInt) ∧ ¬ (whr 3 (upd (upd (upd (upd (upd (upd TX1 0 (X i)) 1 (X (nxt n i))) 2 (P (nxt n i))) 0 (X i)) 1 (P i)) 2 (P (nxt n i))) (upd (upd (upd (upd (upd (upd TY1 0 (Y i)) 1 (Y (nxt n i))) 2 (Q (nxt n i))) 0 (Y i)) 1 (Q i)) 2 (Q (nxt n i))) (U j7).toInt (V j7).toInt).toInt = 0))]) (va_runV (As := [.ref u, .ref r, .int (nI i), .null, .int (nI (nxt n i))]) (rest := []) ⟨hx, hb, hml, hown, hts⟩ (k_Law_holdsCorner_rn l dC dI cI cZ cF H.size lw dr tg wy br bo aa tx ty (upd (upd (upd (upd (upd (upd TX1 0 (X i)) 1 (X (nxt n i))) 2 (P (nxt n i))) 0 (X i)) 1 (P i)) 2 (P (nxt n i))) (upd (upd (upd (upd (upd (upd TY1 0 (Y i)) 1 (Y (nxt n i))) 2 (Q (nxt n i))) 0 (Y i)) 1 (Q i)) 2 (Q (nxt n i))) u ux uy m2 cap2 U V rh r rx ry n cap X Y rg i (nxt n i) (by first | with_reducible assumption | omega) (by first | with_reducible assumption | omega) (by first | with_reducible assumption | omega) (by first | with_reducible assumption | omega) (hq) (tr3_pl (hp _ hin).1 (hp _ hin).2 (hpd _ hid9).1 (hpd _ hid9).2 (hpd _ hnd9).1 (hpd _ hnd9).2) (by first | with_reducible assumption | omega)) (csV_50 hts rfl rfl ⟨Nat.le_of_ble_eq_true rfl, Nat.le_of_ble_eq_true rfl⟩) (zPV2 (q0 := 0) (ci := 3) hPc hDc hK hXN rfl rfl) rfl rfl hl.1 rfl (lv_room (Nat.le_of_ble_eq_true rfl)) dX4_isSweptByMove_151 ⟨Nat.le_of_ble_eq_true rfl, Nat.le_of_ble_eq_true rfl⟩) hS hFc hFc rfl (fun t H locs ht hB hk1 hS => ?_)
              obtain ⟨hP1, hD1⟩ := hB
              rw [ht] at hP1
              replace hP := z0 hP hD hk1 hP1 hI1
              clear hk1 hPc hDc hFc hP1 hD1 ht hI1
              refine zz_i (v := pI (∃ k, k < m2 ∧ ¬ spr n X Y P Q i (U k).toInt (V k).toInt ∧ wtR (X i) (Y i) (P i) (Q i) (P (nxt n i)) (Q (nxt n i)) (U k).toInt (V k).toInt)) (zp_iff (sp_rn (by first | with_reducible assumption | assumption) (by first | with_reducible assumption | assumption) (fun _ => wtR_e))) ?_
              refine lv_if_eq (tgt := 159) hx hb dX4_isSweptByMove_154 rfl (fun c_16 => ?_) (fun c_16 => ?_)
              · have c_16 : ¬ (∃ k, k < m2 ∧ ¬ spr n X Y P Q i (U k).toInt (V k).toInt ∧ wtR (X i) (Y i) (P i) (Q i) (P (nxt n i)) (Q (nxt n i)) (U k).toInt (V k).toInt) := zp_0 c_16
                refine lv_iinc (v := nI (i + 1)) (lv' := [(3, .int (nI (i + 1))), (6, .null), (5, .ref r), (4, .int (nI (nxt n i))), (0, .ref lw), (1, .ref r), (2, .ref u)]) hx hb dX4_isSweptByMove_159 hl (k := 3) rfl (nI_add i 1) (Nat.le_of_ble_eq_true rfl) rfl (fun ls hl => ?_)
                refine lv_goto (tgt := 2) hx hb dX4_isSweptByMove_162 rfl ?_
                exact ih_2 (i + 1) 3 (upd (upd (upd (upd (upd (upd TX1 0 (X i)) 1 (X (nxt n i))) 2 (P (nxt n i))) 0 (X i)) 1 (P i)) 2 (P (nxt n i))) (upd (upd (upd (upd (upd (upd TY1 0 (Y i)) 1 (Y (nxt n i))) 2 (Q (nxt n i))) 0 (Y i)) 1 (Q i)) 2 (Q (nxt n i))) 1 H locs ls (by first | with_reducible assumption | omega) (by first | with_reducible assumption | omega) (by intro j hj k hk; rcases Nat.lt_or_ge j i with h | h; exact hno j h k hk; rw [show j = i by omega]; first | exact (fun h9 => h9.2.elim (fun g => (by (first | with_reducible assumption | assumption) : ¬ (∃ k, k < m2 ∧ ¬ spr n X Y P Q i (U k).toInt (V k).toInt ∧ wtR (X i) (Y i) (X (nxt n i)) (Y (nxt n i)) (P (nxt n i)) (Q (nxt n i)) (U k).toInt (V k).toInt)) ⟨k, hk, h9.1, g⟩) (fun g => (by (first | with_reducible assumption | assumption) : ¬ (∃ k, k < m2 ∧ ¬ spr n X Y P Q i (U k).toInt (V k).toInt ∧ wtR (X i) (Y i) (P i) (Q i) (P (nxt n i)) (Q (nxt n i)) (U k).toInt (V k).toInt)) ⟨k, hk, h9.1, g⟩)) | exact (fun h9 => h9.1 (Or.inl ⟨⟨by omega, by omega⟩, ⟨by omega, by omega⟩⟩))) hP hD hS (lv_sub hl [0, 4, 5, 6] rfl)
              · have c_16 : ∃ k, k < m2 ∧ ¬ spr n X Y P Q i (U k).toInt (V k).toInt ∧ wtR (X i) (Y i) (P i) (Q i) (P (nxt n i)) (Q (nxt n i)) (U k).toInt (V k).toInt := zp_1 c_16
                refine lv_iconst (v := 1) hx hb dX4_isSweptByMove_157 rfl ?_
                obtain ⟨hP9, hD9⟩ := zu_sub (wc := [_, _, _, _, _, _, _, _, _, _, _, _, _]) hP hD [true, true, true, true, true, true, true, true, true, true, true, true, true] rfl rfl
                rw [hQ9]
                exact W.zret (ty := .boolean) (v := 1) hx hb hr (rfl) (fun t ht hW => ⟨⟨congrArg (fun z => Outcome.returned (some (Value.int z))) (show (1 : Int32) = pI (∃ i, i < edg n rg ∧ ∃ k, k < m2 ∧ swR n X Y P Q (U k).toInt (V k).toInt i) from (zp_t (by obtain ⟨k, hk, h1, h2⟩ := (by (first | with_reducible assumption | assumption) : ∃ k, k < m2 ∧ ¬ spr n X Y P Q i (U k).toInt (V k).toInt ∧ wtR (X i) (Y i) (P i) (Q i) (P (nxt n i)) (Q (nxt n i)) (U k).toInt (V k).toInt); exact ⟨i, by omega, k, hk, h1, Or.inr h2⟩)).symm), 3, (upd (upd (upd (upd (upd (upd TX1 0 (X i)) 1 (X (nxt n i))) 2 (P (nxt n i))) 0 (X i)) 1 (P i)) 2 (P (nxt n i))), (upd (upd (upd (upd (upd (upd TY1 0 (Y i)) 1 (Y (nxt n i))) 2 (Q (nxt n i))) 0 (Y i)) 1 (Q i)) 2 (Q (nxt n i))), 1, by rw [ht]; exact hP9, hD9⟩, hS.F ht⟩) hS.2.2 dX4_isSweptByMove_158
            · have c_15 : ∃ k, k < m2 ∧ ¬ spr n X Y P Q i (U k).toInt (V k).toInt ∧ wtR (X i) (Y i) (X (nxt n i)) (Y (nxt n i)) (P (nxt n i)) (Q (nxt n i)) (U k).toInt (V k).toInt := zp_1 c_15
              refine lv_iconst (v := 1) hx hb dX4_isSweptByMove_123 rfl ?_
              obtain ⟨hP9, hD9⟩ := zu_sub (wc := [_, _, _, _, _, _, _, _, _, _, _, _, _]) hP hD [true, true, true, true, true, true, true, true, true, true, true, true, true] rfl rfl
              rw [hQ9]
              exact W.zret (ty := .boolean) (v := 1) hx hb hr (rfl) (fun t ht hW => ⟨⟨congrArg (fun z => Outcome.returned (some (Value.int z))) (show (1 : Int32) = pI (∃ i, i < edg n rg ∧ ∃ k, k < m2 ∧ swR n X Y P Q (U k).toInt (V k).toInt i) from (zp_t (by obtain ⟨k, hk, h1, h2⟩ := (by (first | with_reducible assumption | assumption) : ∃ k, k < m2 ∧ ¬ spr n X Y P Q i (U k).toInt (V k).toInt ∧ wtR (X i) (Y i) (X (nxt n i)) (Y (nxt n i)) (P (nxt n i)) (Q (nxt n i)) (U k).toInt (V k).toInt); exact ⟨i, by omega, k, hk, h1, Or.inl h2⟩)).symm), 3, (upd (upd (upd TX1 0 (X i)) 1 (X (nxt n i))) 2 (P (nxt n i))), (upd (upd (upd TY1 0 (Y i)) 1 (Y (nxt n i))) 2 (Q (nxt n i))), 1, by rw [ht]; exact hP9, hD9⟩, hS.F ht⟩) hS.2.2 dX4_isSweptByMove_124
          · have c_14 : (P (nxt n i)).toInt = (X (nxt n i)).toInt ∧ (Q (nxt n i)).toInt = (Y (nxt n i)).toInt := zp_1 c_14
            refine lv_aload_n hx hb dX4_isSweptByMove_73 rfl (lv_at hl 4 rfl) ?_
            refine lv_goto (tgt := 78) hx hb dX4_isSweptByMove_74 rfl ?_
            refine lv_astore (lv' := [(6, .ref r), (5, .ref r), (4, .int (nI (nxt n i))), (3, .int (nI i)), (0, .ref lw), (1, .ref r), (2, .ref u)]) hx hb dX4_isSweptByMove_78 hl (Nat.le_of_ble_eq_true rfl) rfl (fun ls hl => ?_)
            refine lv_aload hx hb dX4_isSweptByMove_80 (lv_at hl 1 rfl) ?_
            refine lv_ifnull hx hb dX4_isSweptByMove_82 ?_
            refine lv_aload hx hb dX4_isSweptByMove_85 (lv_at hl 0 rfl) ?_
            refine lv_ifnull hx hb dX4_isSweptByMove_87 ?_
            refine lv_goto (tgt := 159) hx hb dX4_isSweptByMove_90 rfl ?_
            refine lv_iinc (v := nI (i + 1)) (lv' := [(3, .int (nI (i + 1))), (6, .ref r), (5, .ref r), (4, .int (nI (nxt n i))), (0, .ref lw), (1, .ref r), (2, .ref u)]) hx hb dX4_isSweptByMove_159 hl (k := 3) rfl (nI_add i 1) (Nat.le_of_ble_eq_true rfl) rfl (fun ls hl => ?_)
            refine lv_goto (tgt := 2) hx hb dX4_isSweptByMove_162 rfl ?_
            exact ih_2 (i + 1) nt1 TX1 TY1 rt1 H locs ls (by first | with_reducible assumption | omega) (by first | with_reducible assumption | omega) (by intro j hj k hk; rcases Nat.lt_or_ge j i with h | h; exact hno j h k hk; rw [show j = i by omega]; first | exact (fun h9 => h9.2.elim (fun g => (by (first | with_reducible assumption | assumption) : ¬ (∃ k, k < m2 ∧ ¬ spr n X Y P Q i (U k).toInt (V k).toInt ∧ wtR (X i) (Y i) (X (nxt n i)) (Y (nxt n i)) (P (nxt n i)) (Q (nxt n i)) (U k).toInt (V k).toInt)) ⟨k, hk, h9.1, g⟩) (fun g => (by (first | with_reducible assumption | assumption) : ¬ (∃ k, k < m2 ∧ ¬ spr n X Y P Q i (U k).toInt (V k).toInt ∧ wtR (X i) (Y i) (P i) (Q i) (P (nxt n i)) (Q (nxt n i)) (U k).toInt (V k).toInt)) ⟨k, hk, h9.1, g⟩)) | exact (fun h9 => h9.1 (Or.inl ⟨⟨by omega, by omega⟩, ⟨by omega, by omega⟩⟩))) hP hD hS (lv_sub hl [0, 4, 5, 6] rfl)
  exact hl_2 _ 0 nt TX TY rt s.heap [] ls (Nat.lt_succ_self _) (by first | with_reducible assumption | omega) (by intro j hj; omega) hP hD hS (lv_sub hl [0, 1, 2, 3] rfl)
set_option maxHeartbeats 4000000 in
set_option maxRecDepth 100000 in
theorem k_Law_measureReach_1 (l : Launch) (dC : Nat → ClassId) (dI : Nat → Nat → Nat) (cI cZ cF : ClassId) (sz : Nat) (lw : Nat) (dr : Nat) (tg : Nat) (wy : Nat) (br : Nat) (bo : Nat) (aa : Nat) (b1 : Int32) (b2 : Int32) (b3 : Int32) (b4 : Int32) (dx : Nat) (dy : Nat) (nd : Nat) (cd : Nat) (P : Nat → Int32) (Q : Nat → Int32) (rd : Int32) (r : Nat) (rx : Nat) (ry : Nat) (n : Nat) (cap : Nat) (X : Nat → Int32) (Y : Nat → Int32) (rg : Int32) (hnd : nd ≤ cd) (hcd : cd ≤ 1000) (hpd : pls nd P Q) (hn : n ≤ cap) (hcap : cap ≤ 1000) (hp : pls n X Y) (h1n : 1 ≤ n) : zM l yX4_measureReach cX4_measureReach 3 none ({ frames := 3, cells := 0, slots := 0, locals := 65 } : Room) [.ref lw, .ref r, .int (-1)] (dC, dI) (zTy cI cZ cF) [(oc3 lw (.ref dr) (.ref tg) (.ref wy) (.ref br) (.ref bo) (.ref aa)), (oc0 br b1 b2 b3 b4), (oc6 dr (.ref dx) (.ref dy) (nI nd) rd), (oa dx cI cd P), (oa dy cI cd Q), (oc6 r (.ref rx) (.ref ry) (nI n) rg), (oa rx cI cap X), (oa ry cI cap Y)] sz none (fun A t => zPD (dC, dI) classes A [(oc3 lw (.ref dr) (.ref tg) (.ref wy) (.ref br) (.ref bo) (.ref aa)), (oc0 br (iI (mnI (mnI (X 0).toInt X n) P nd)) (iI (mnI (mnI (Y 0).toInt Y n) Q nd)) (iI (mxI (mxI (X 0).toInt X n) P nd)) (iI (mxI (mxI (Y 0).toInt Y n) Q nd))), (oc6 dr (.ref dx) (.ref dy) (nI nd) rd), (oa dx cI cd P), (oa dy cI cd Q), (oc6 r (.ref rx) (.ref ry) (nI n) rg), (oa rx cI cap X), (oa ry cI cap Y)] t.heap) 0 0 := by
  refine zIn (own := "ScaleShop$Law") (loc := [(0, .ref lw), (1, .ref r), (2, .int (-1))]) rfl rfl rfl rfl (fun p e s m below meth c hx hb hr hts hown hlocks hml hnm9 A hA hS hP hD hK hXN Q9 hQ9 ls hl => ?_)
  refine lv_iload_n hx hb dX4_measureReach_0 rfl (lv_at hl 2 rfl) ?_
  refine lv_if_lt (tgt := 78) hx hb dX4_measureReach_1 rfl (fun c_1 => ?_) (fun c_1 => ?_)
  · refine lv_aload_n hx hb dX4_measureReach_78 rfl (lv_at hl 0 rfl) ?_
    refine va_get (D := (dC, dI)) (ci := 3) (v := .ref br) (C := RX4) (T := TX4) (N := 6) hx hb hts inX4 hown hK hP 0 rfl rfl 3 (Nat.le_of_ble_eq_true rfl) (hts _ mw_223) (fun _ h9 => h9) rfl dX4_measureReach_79 ?_
    refine lv_aload_n hx hb dX4_measureReach_82 rfl (lv_at hl 1 rfl) ?_
    obtain ⟨hPc, hDc, hFc⟩ := zo_sub (wc := [_, _, _, _]) hP hD hS hA [1, 5, 6, 7] (by decide +kernel) rfl
    refine zcall (st1 := []) (va_runV (As := [.ref r]) (rest := []) ⟨hx, hb, hml, hown, hts⟩ (k_Box_cover l dC dI cI cZ cF s.heap.size br b1 b2 b3 b4 r rx ry n cap X Y rg (by first | with_reducible assumption | omega) (by first | with_reducible assumption | omega) ((pls_nr hp).1) ((pls_nr hp).2) (by first | with_reducible assumption | omega)) (csV_52 hts rfl rfl ⟨Nat.le_of_ble_eq_true rfl, Nat.le_of_ble_eq_true rfl⟩) (zPV2 (q0 := 0) (ci := 0) hPc hDc hK hXN rfl rfl) rfl rfl hl.1 rfl (lv_room (Nat.le_of_ble_eq_true rfl)) dX4_measureReach_83 ⟨Nat.le_of_ble_eq_true rfl, Nat.le_of_ble_eq_true rfl⟩) hS hFc hFc rfl (fun t H locs ht hB hk1 hS => ?_)
    obtain ⟨hP1, hD1⟩ := hB
    rw [ht] at hP1
    obtain ⟨hP, hD⟩ := zn (W2 := [_, (oc0 br (iI (mnI (X 0).toInt X n)) (iI (mnI (Y 0).toInt Y n)) (iI (mxI (X 0).toInt X n)) (iI (mxI (Y 0).toInt Y n))), _, _, _, _, _, _]) hP hD hk1 hFc hP1 hD1 [1, 5, 6, 7] [true, false, true, true, true] zl_15 [1, 5, 6, 7] (by decide +kernel) rfl rfl rfl rfl rfl
    clear hk1 hPc hDc hFc hP1 hD1 ht
    refine lv_aload_n hx hb dX4_measureReach_86 rfl (lv_at hl 0 rfl) ?_
    refine va_get (D := (dC, dI)) (ci := 3) (v := .ref br) (C := RX4) (T := TX4) (N := 6) hx hb hts inX4 hown hK hP 0 rfl rfl 3 (Nat.le_of_ble_eq_true rfl) (hts _ mw_223) (fun _ h9 => h9) rfl dX4_measureReach_87 ?_
    refine lv_aload_n hx hb dX4_measureReach_90 rfl (lv_at hl 0 rfl) ?_
    refine va_get (D := (dC, dI)) (ci := 3) (v := .ref dr) (C := RX4) (T := TX4) (N := 6) hx hb hts inX4 hown hK hP 0 rfl rfl 0 (Nat.le_of_ble_eq_true rfl) (hts _ mw_219) (fun _ h9 => h9) rfl dX4_measureReach_91 ?_
    obtain ⟨hPc, hDc, hFc⟩ := zo_sub (wc := [_, _, _, _]) hP hD hS hA [1, 2, 3, 4] (by decide +kernel) rfl
    refine zcall (st1 := []) (va_runV (As := [.ref dr]) (rest := []) ⟨hx, hb, hml, hown, hts⟩ (k_Box_stretch l dC dI cI cZ cF H.size br (mnI (X 0).toInt X n) (mnI (Y 0).toInt Y n) (mxI (X 0).toInt X n) (mxI (Y 0).toInt Y n) dr dx dy nd cd P Q rd (⟨mnB ((pls_nr hp).1 0 (by first | with_reducible assumption | omega)) (pls_nr hp).1 n (Nat.le_refl _), mnB ((pls_nr hp).2 0 (by first | with_reducible assumption | omega)) (pls_nr hp).2 n (Nat.le_refl _), mxB ((pls_nr hp).1 0 (by first | with_reducible assumption | omega)) (pls_nr hp).1 n (Nat.le_refl _), mxB ((pls_nr hp).2 0 (by first | with_reducible assumption | omega)) (pls_nr hp).2 n (Nat.le_refl _)⟩) (by first | with_reducible assumption | omega) (by first | with_reducible assumption | omega) ((pls_nr hpd).1) ((pls_nr hpd).2)) (csV_53 hts rfl rfl ⟨Nat.le_of_ble_eq_true rfl, Nat.le_of_ble_eq_true rfl⟩) (zPV2 (q0 := 0) (ci := 0) hPc hDc hK hXN rfl rfl) rfl rfl hl.1 rfl (lv_room (Nat.le_of_ble_eq_true rfl)) dX4_measureReach_94 ⟨Nat.le_of_ble_eq_true rfl, Nat.le_of_ble_eq_true rfl⟩) hS hFc hFc rfl (fun t H locs ht hB hk1 hS => ?_)
    obtain ⟨hP1, hD1⟩ := hB
    rw [ht] at hP1
    obtain ⟨hP, hD⟩ := zn (W2 := [_, (oc0 br (iI (mnI (mnI (X 0).toInt X n) P nd)) (iI (mnI (mnI (Y 0).toInt Y n) Q nd)) (iI (mxI (mxI (X 0).toInt X n) P nd)) (iI (mxI (mxI (Y 0).toInt Y n) Q nd))), _, _, _, _, _, _]) hP hD hk1 hFc hP1 hD1 [1, 2, 3, 4] zl_16 zl_16 [1, 2, 3, 4] (by decide +kernel) rfl rfl rfl rfl rfl
    clear hk1 hPc hDc hFc hP1 hD1 ht
    obtain ⟨hP9, hD9⟩ := zu_sub (wc := [_, _, _, _, _, _, _, _]) hP hD [true, true, true, true, true, true, true, true] rfl rfl
    rw [hQ9]
    exact W.vret hx hb hr (fun t ht hW => ⟨⟨rfl, by rw [ht]; exact hP9, hD9⟩, hS.F ht⟩) hS.2.2 dX4_measureReach_97
  · exact absurd (by decide) c_1
set_option maxHeartbeats 4000000 in
set_option maxRecDepth 100000 in
theorem k_Law_measureReach_2 (l : Launch) (dC : Nat → ClassId) (dI : Nat → Nat → Nat) (cI cZ cF : ClassId) (sz : Nat) (lw : Nat) (dr : Nat) (tg : Nat) (wy : Nat) (br : Nat) (bo : Nat) (aa : Nat) (b1 : Int32) (b2 : Int32) (b3 : Int32) (b4 : Int32) (dx : Nat) (dy : Nat) (nd : Nat) (cd : Nat) (P : Nat → Int32) (Q : Nat → Int32) (rd : Int32) (r : Nat) (rx : Nat) (ry : Nat) (n : Nat) (cap : Nat) (X : Nat → Int32) (Y : Nat → Int32) (rg : Int32) (hnd : nd ≤ cd) (hcd : cd ≤ 1000) (hpd : pls nd P Q) (hn : n ≤ cap) (hcap : cap ≤ 1000) (hp : pls n X Y) (h1n : 1 ≤ n) : zM l yX4_measureReach cX4_measureReach 3 none ({ frames := 3, cells := 0, slots := 0, locals := 65 } : Room) [.ref lw, .ref r, .int (-2)] (dC, dI) (zTy cI cZ cF) [(oc3 lw (.ref dr) (.ref tg) (.ref wy) (.ref br) (.ref bo) (.ref aa)), (oc0 br b1 b2 b3 b4), (oc6 dr (.ref dx) (.ref dy) (nI nd) rd), (oa dx cI cd P), (oa dy cI cd Q), (oc6 r (.ref rx) (.ref ry) (nI n) rg), (oa rx cI cap X), (oa ry cI cap Y)] sz none (fun A t => zPD (dC, dI) classes A [(oc3 lw (.ref dr) (.ref tg) (.ref wy) (.ref br) (.ref bo) (.ref aa)), (oc0 br (iI (mnI (mnI (X 0).toInt X n) P nd)) (iI (mnI (mnI (Y 0).toInt Y n) Q nd)) (iI (mxI (mxI (X 0).toInt X n) P nd)) (iI (mxI (mxI (Y 0).toInt Y n) Q nd))), (oc6 dr (.ref dx) (.ref dy) (nI nd) rd), (oa dx cI cd P), (oa dy cI cd Q), (oc6 r (.ref rx) (.ref ry) (nI n) rg), (oa rx cI cap X), (oa ry cI cap Y)] t.heap) 0 0 := by
  refine zIn (own := "ScaleShop$Law") (loc := [(0, .ref lw), (1, .ref r), (2, .int (-2))]) rfl rfl rfl rfl (fun p e s m below meth c hx hb hr hts hown hlocks hml hnm9 A hA hS hP hD hK hXN Q9 hQ9 ls hl => ?_)
  refine lv_iload_n hx hb dX4_measureReach_0 rfl (lv_at hl 2 rfl) ?_
  refine lv_if_lt (tgt := 78) hx hb dX4_measureReach_1 rfl (fun c_1 => ?_) (fun c_1 => ?_)
  · refine lv_aload_n hx hb dX4_measureReach_78 rfl (lv_at hl 0 rfl) ?_
    refine va_get (D := (dC, dI)) (ci := 3) (v := .ref br) (C := RX4) (T := TX4) (N := 6) hx hb hts inX4 hown hK hP 0 rfl rfl 3 (Nat.le_of_ble_eq_true rfl) (hts _ mw_223) (fun _ h9 => h9) rfl dX4_measureReach_79 ?_
    refine lv_aload_n hx hb dX4_measureReach_82 rfl (lv_at hl 1 rfl) ?_
    obtain ⟨hPc, hDc, hFc⟩ := zo_sub (wc := [_, _, _, _]) hP hD hS hA [1, 5, 6, 7] (by decide +kernel) rfl
    refine zcall (st1 := []) (va_runV (As := [.ref r]) (rest := []) ⟨hx, hb, hml, hown, hts⟩ (k_Box_cover l dC dI cI cZ cF s.heap.size br b1 b2 b3 b4 r rx ry n cap X Y rg (by first | with_reducible assumption | omega) (by first | with_reducible assumption | omega) ((pls_nr hp).1) ((pls_nr hp).2) (by first | with_reducible assumption | omega)) (csV_52 hts rfl rfl ⟨Nat.le_of_ble_eq_true rfl, Nat.le_of_ble_eq_true rfl⟩) (zPV2 (q0 := 0) (ci := 0) hPc hDc hK hXN rfl rfl) rfl rfl hl.1 rfl (lv_room (Nat.le_of_ble_eq_true rfl)) dX4_measureReach_83 ⟨Nat.le_of_ble_eq_true rfl, Nat.le_of_ble_eq_true rfl⟩) hS hFc hFc rfl (fun t H locs ht hB hk1 hS => ?_)
    obtain ⟨hP1, hD1⟩ := hB
    rw [ht] at hP1
    obtain ⟨hP, hD⟩ := zn (W2 := [_, (oc0 br (iI (mnI (X 0).toInt X n)) (iI (mnI (Y 0).toInt Y n)) (iI (mxI (X 0).toInt X n)) (iI (mxI (Y 0).toInt Y n))), _, _, _, _, _, _]) hP hD hk1 hFc hP1 hD1 [1, 5, 6, 7] [true, false, true, true, true] zl_15 [1, 5, 6, 7] (by decide +kernel) rfl rfl rfl rfl rfl
    clear hk1 hPc hDc hFc hP1 hD1 ht
    refine lv_aload_n hx hb dX4_measureReach_86 rfl (lv_at hl 0 rfl) ?_
    refine va_get (D := (dC, dI)) (ci := 3) (v := .ref br) (C := RX4) (T := TX4) (N := 6) hx hb hts inX4 hown hK hP 0 rfl rfl 3 (Nat.le_of_ble_eq_true rfl) (hts _ mw_223) (fun _ h9 => h9) rfl dX4_measureReach_87 ?_
    refine lv_aload_n hx hb dX4_measureReach_90 rfl (lv_at hl 0 rfl) ?_
    refine va_get (D := (dC, dI)) (ci := 3) (v := .ref dr) (C := RX4) (T := TX4) (N := 6) hx hb hts inX4 hown hK hP 0 rfl rfl 0 (Nat.le_of_ble_eq_true rfl) (hts _ mw_219) (fun _ h9 => h9) rfl dX4_measureReach_91 ?_
    obtain ⟨hPc, hDc, hFc⟩ := zo_sub (wc := [_, _, _, _]) hP hD hS hA [1, 2, 3, 4] (by decide +kernel) rfl
    refine zcall (st1 := []) (va_runV (As := [.ref dr]) (rest := []) ⟨hx, hb, hml, hown, hts⟩ (k_Box_stretch l dC dI cI cZ cF H.size br (mnI (X 0).toInt X n) (mnI (Y 0).toInt Y n) (mxI (X 0).toInt X n) (mxI (Y 0).toInt Y n) dr dx dy nd cd P Q rd (⟨mnB ((pls_nr hp).1 0 (by first | with_reducible assumption | omega)) (pls_nr hp).1 n (Nat.le_refl _), mnB ((pls_nr hp).2 0 (by first | with_reducible assumption | omega)) (pls_nr hp).2 n (Nat.le_refl _), mxB ((pls_nr hp).1 0 (by first | with_reducible assumption | omega)) (pls_nr hp).1 n (Nat.le_refl _), mxB ((pls_nr hp).2 0 (by first | with_reducible assumption | omega)) (pls_nr hp).2 n (Nat.le_refl _)⟩) (by first | with_reducible assumption | omega) (by first | with_reducible assumption | omega) ((pls_nr hpd).1) ((pls_nr hpd).2)) (csV_53 hts rfl rfl ⟨Nat.le_of_ble_eq_true rfl, Nat.le_of_ble_eq_true rfl⟩) (zPV2 (q0 := 0) (ci := 0) hPc hDc hK hXN rfl rfl) rfl rfl hl.1 rfl (lv_room (Nat.le_of_ble_eq_true rfl)) dX4_measureReach_94 ⟨Nat.le_of_ble_eq_true rfl, Nat.le_of_ble_eq_true rfl⟩) hS hFc hFc rfl (fun t H locs ht hB hk1 hS => ?_)
    obtain ⟨hP1, hD1⟩ := hB
    rw [ht] at hP1
    obtain ⟨hP, hD⟩ := zn (W2 := [_, (oc0 br (iI (mnI (mnI (X 0).toInt X n) P nd)) (iI (mnI (mnI (Y 0).toInt Y n) Q nd)) (iI (mxI (mxI (X 0).toInt X n) P nd)) (iI (mxI (mxI (Y 0).toInt Y n) Q nd))), _, _, _, _, _, _]) hP hD hk1 hFc hP1 hD1 [1, 2, 3, 4] zl_16 zl_16 [1, 2, 3, 4] (by decide +kernel) rfl rfl rfl rfl rfl
    clear hk1 hPc hDc hFc hP1 hD1 ht
    obtain ⟨hP9, hD9⟩ := zu_sub (wc := [_, _, _, _, _, _, _, _]) hP hD [true, true, true, true, true, true, true, true] rfl rfl
    rw [hQ9]
    exact W.vret hx hb hr (fun t ht hW => ⟨⟨rfl, by rw [ht]; exact hP9, hD9⟩, hS.F ht⟩) hS.2.2 dX4_measureReach_97
  · exact absurd (by decide) c_1
set_option maxHeartbeats 4000000 in
set_option maxRecDepth 100000 in
theorem k_Law_measureReach_k (l : Launch) (dC : Nat → ClassId) (dI : Nat → Nat → Nat) (cI cZ cF : ClassId) (sz : Nat) (lw : Nat) (dr : Nat) (tg : Nat) (wy : Nat) (br : Nat) (bo : Nat) (aa : Nat) (b1 : Int32) (b2 : Int32) (b3 : Int32) (b4 : Int32) (r : Nat) (rx : Nat) (ry : Nat) (n : Nat) (cap : Nat) (X : Nat → Int32) (Y : Nat → Int32) (rg : Int32) (k : Nat) (hn : n ≤ cap) (hcap : cap ≤ 1000) (hp : pls n X Y) (hk : k < n) : zM l yX4_measureReach cX4_measureReach 3 none ({ frames := 1, cells := 0, slots := 0, locals := 22 } : Room) [.ref lw, .ref r, .int (nI k)] (dC, dI) (zTy cI cZ cF) [(oc3 lw (.ref dr) (.ref tg) (.ref wy) (.ref br) (.ref bo) (.ref aa)), (oc0 br b1 b2 b3 b4), (oc6 r (.ref rx) (.ref ry) (nI n) rg), (oa rx cI cap X), (oa ry cI cap Y)] sz none (fun A t => zPD (dC, dI) classes A [(oc3 lw (.ref dr) (.ref tg) (.ref wy) (.ref br) (.ref bo) (.ref aa)), (oc0 br (iI (min (min (X k).toInt (X (prv n k)).toInt) (X (nxt n k)).toInt)) (iI (min (min (Y k).toInt (Y (prv n k)).toInt) (Y (nxt n k)).toInt)) (iI (max (max (X k).toInt (X (prv n k)).toInt) (X (nxt n k)).toInt)) (iI (max (max (Y k).toInt (Y (prv n k)).toInt) (Y (nxt n k)).toInt))), (oc6 r (.ref rx) (.ref ry) (nI n) rg), (oa rx cI cap X), (oa ry cI cap Y)] t.heap) 0 0 := by
  refine zIn (own := "ScaleShop$Law") (loc := [(0, .ref lw), (1, .ref r), (2, .int (nI k))]) rfl rfl rfl rfl (fun p e s m below meth c hx hb hr hts hown hlocks hml hnm9 A hA hS hP hD hK hXN Q9 hQ9 ls hl => ?_)
  have hpv := prv_lt (n := n) (i := k) hk
  have hnx := nxt_lt (n := n) (i := k) (by omega)
  have a1 := (pls_nr hp).1 k hk
  have a2 := (pls_nr hp).2 k hk
  have a3 := (pls_nr hp).1 _ hpv
  have a4 := (pls_nr hp).2 _ hpv
  refine lv_iload_n hx hb dX4_measureReach_0 rfl (lv_at hl 2 rfl) ?_
  have b9_2 : zlt (k) := show k < 2147483648 by omega
  refine lv_if_lt (tgt := 78) hx hb dX4_measureReach_1 rfl (fun c_1 => ?_) (fun c_1 => ?_)
  · have c_1 : ((k : Nat) : Int) < 0 := zc_lt (nI_toInt b9_2) rfl c_1
    exfalso; omega
  · have c_1 : 0 ≤ ((k : Nat) : Int) := zc_nlt (nI_toInt b9_2) rfl c_1
    refine lv_aload_n hx hb dX4_measureReach_4 rfl (lv_at hl 0 rfl) ?_
    refine va_get (D := (dC, dI)) (ci := 3) (v := .ref br) (C := RX4) (T := TX4) (N := 6) hx hb hts inX4 hown hK hP 0 rfl rfl 3 (Nat.le_of_ble_eq_true rfl) (hts _ mw_223) (fun _ h9 => h9) rfl dX4_measureReach_5 ?_
    refine lv_aload_n hx hb dX4_measureReach_8 rfl (lv_at hl 1 rfl) ?_
    refine va_get (D := (dC, dI)) (ci := 6) (v := .ref rx) (C := RX7) (T := TX7) (N := 4) hx hb hts inX7 hown hK hP 2 rfl rfl 0 (Nat.le_of_ble_eq_true rfl) (hts _ mw_163) (fun _ h9 => h9) rfl dX4_measureReach_9 ?_
    refine lv_iload_n hx hb dX4_measureReach_12 rfl (lv_at hl 2 rfl) ?_
    have b9_3 : k < cap := by omega
    have b9_4 : zlt (cap) := show cap < 2147483648 by omega
    refine z_iald hx hb hK hP 3 0 rfl rfl (e := k) rfl b9_3 b9_4 dX4_measureReach_13 ?_
    refine lv_aload_n hx hb dX4_measureReach_14 rfl (lv_at hl 1 rfl) ?_
    refine va_get (D := (dC, dI)) (ci := 6) (v := .ref ry) (C := RX7) (T := TX7) (N := 4) hx hb hts inX7 hown hK hP 2 rfl rfl 1 (Nat.le_of_ble_eq_true rfl) (hts _ mw_170) (fun _ h9 => h9) rfl dX4_measureReach_15 ?_
    refine lv_iload_n hx hb dX4_measureReach_18 rfl (lv_at hl 2 rfl) ?_
    refine z_iald hx hb hK hP 4 0 rfl rfl (e := k) rfl b9_3 b9_4 dX4_measureReach_19 ?_
    obtain ⟨hPc, hDc, hFc⟩ := zo_sub (wc := [_]) hP hD hS hA [1] rfl rfl
    refine zcall (st1 := []) (va_runV (As := [.int (X k), .int (Y k)]) (rest := []) ⟨hx, hb, hml, hown, hts⟩ (k_Box_begin l dC dI cI cZ cF s.heap.size br b1 b2 b3 b4 (X k) (Y k) ) (csV_54 hts rfl rfl ⟨Nat.le_of_ble_eq_true rfl, Nat.le_of_ble_eq_true rfl⟩) (zPV2 (q0 := 0) (ci := 0) hPc hDc hK hXN rfl rfl) rfl rfl hl.1 rfl (lv_room (Nat.le_of_ble_eq_true rfl)) dX4_measureReach_20 ⟨Nat.le_of_ble_eq_true rfl, Nat.le_of_ble_eq_true rfl⟩) hS hFc hFc rfl (fun t H locs ht hB hk1 hS => ?_)
    obtain ⟨hP1, hD1⟩ := hB
    rw [ht] at hP1
    obtain ⟨hP, hD⟩ := zn (W2 := [_, (oc0 br (iI (X k).toInt) (iI (Y k).toInt) (iI (X k).toInt) (iI (Y k).toInt)), _, _, _]) hP hD hk1 hFc hP1 hD1 [1] [true, false, true, true, true] [true, false, true, true, true] [1] (by decide +kernel) rfl rfl rfl rfl rfl
    clear hk1 hPc hDc hFc hP1 hD1 ht
    refine lv_aload_n hx hb dX4_measureReach_23 rfl (lv_at hl 0 rfl) ?_
    refine va_get (D := (dC, dI)) (ci := 3) (v := .ref br) (C := RX4) (T := TX4) (N := 6) hx hb hts inX4 hown hK hP 0 rfl rfl 3 (Nat.le_of_ble_eq_true rfl) (hts _ mw_223) (fun _ h9 => h9) rfl dX4_measureReach_24 ?_
    refine lv_aload_n hx hb dX4_measureReach_27 rfl (lv_at hl 1 rfl) ?_
    refine va_get (D := (dC, dI)) (ci := 6) (v := .ref rx) (C := RX7) (T := TX7) (N := 4) hx hb hts inX7 hown hK hP 2 rfl rfl 0 (Nat.le_of_ble_eq_true rfl) (hts _ mw_163) (fun _ h9 => h9) rfl dX4_measureReach_28 ?_
    refine lv_aload_n hx hb dX4_measureReach_31 rfl (lv_at hl 1 rfl) ?_
    refine lv_iload_n hx hb dX4_measureReach_32 rfl (lv_at hl 2 rfl) ?_
    obtain ⟨hPc, hDc, hFc, hI1⟩ := zi_sub (wc := [_, _, _]) hP hD hS hA [2, 3, 4] rfl rfl
    refine zcall (st1 := [.int (nI (prv n k)), .ref rx, .ref br]) (va_runV (As := [.int (nI k)]) (rest := [.ref rx, .ref br]) ⟨hx, hb, hml, hown, hts⟩ (k_Row_previous l dC dI cI cZ cF H.size r rx ry n cap X Y rg k (by first | with_reducible assumption | omega) (by first | with_reducible assumption | omega) (by first | with_reducible assumption | omega)) (csV_48 hts rfl rfl ⟨Nat.le_of_ble_eq_true rfl, Nat.le_of_ble_eq_true rfl⟩) (zPV2 (q0 := 0) (ci := 6) hPc hDc hK hXN rfl rfl) rfl rfl hl.1 rfl (lv_room (Nat.le_of_ble_eq_true rfl)) dX4_measureReach_33 ⟨Nat.le_of_ble_eq_true rfl, Nat.le_of_ble_eq_true rfl⟩) hS hFc hFc rfl (fun t H locs ht hB hk1 hS => ?_)
    obtain ⟨hP1, hD1⟩ := hB
    rw [ht] at hP1
    replace hP := z0 hP hD hk1 hP1 hI1
    clear hk1 hPc hDc hFc hP1 hD1 ht hI1
    have b9_5 : prv n k < cap := by omega
    refine z_iald hx hb hK hP 3 0 rfl rfl (e := prv n k) rfl b9_5 b9_4 dX4_measureReach_36 ?_
    refine lv_aload_n hx hb dX4_measureReach_37 rfl (lv_at hl 1 rfl) ?_
    refine va_get (D := (dC, dI)) (ci := 6) (v := .ref ry) (C := RX7) (T := TX7) (N := 4) hx hb hts inX7 hown hK hP 2 rfl rfl 1 (Nat.le_of_ble_eq_true rfl) (hts _ mw_170) (fun _ h9 => h9) rfl dX4_measureReach_38 ?_
    refine lv_aload_n hx hb dX4_measureReach_41 rfl (lv_at hl 1 rfl) ?_
    refine lv_iload_n hx hb dX4_measureReach_42 rfl (lv_at hl 2 rfl) ?_
    obtain ⟨hPc, hDc, hFc, hI1⟩ := zi_sub (wc := [_, _, _]) hP hD hS hA [2, 3, 4] rfl rfl
    refine zcall (st1 := [.int (nI (prv n k)), .ref ry, .int (X (prv n k)), .ref br]) (va_runV (As := [.int (nI k)]) (rest := [.ref ry, .int (X (prv n k)), .ref br]) ⟨hx, hb, hml, hown, hts⟩ (k_Row_previous l dC dI cI cZ cF H.size r rx ry n cap X Y rg k (by first | with_reducible assumption | omega) (by first | with_reducible assumption | omega) (by first | with_reducible assumption | omega)) (csV_48 hts rfl rfl ⟨Nat.le_of_ble_eq_true rfl, Nat.le_of_ble_eq_true rfl⟩) (zPV2 (q0 := 0) (ci := 6) hPc hDc hK hXN rfl rfl) rfl rfl hl.1 rfl (lv_room (Nat.le_of_ble_eq_true rfl)) dX4_measureReach_43 ⟨Nat.le_of_ble_eq_true rfl, Nat.le_of_ble_eq_true rfl⟩) hS hFc hFc rfl (fun t H locs ht hB hk1 hS => ?_)
    obtain ⟨hP1, hD1⟩ := hB
    rw [ht] at hP1
    replace hP := z0 hP hD hk1 hP1 hI1
    clear hk1 hPc hDc hFc hP1 hD1 ht hI1
    refine z_iald hx hb hK hP 4 0 rfl rfl (e := prv n k) rfl b9_5 b9_4 dX4_measureReach_46 ?_
    obtain ⟨hPc, hDc, hFc⟩ := zo_sub (wc := [_]) hP hD hS hA [1] rfl rfl
    refine zcall (st1 := []) (va_runV (As := [.int (X (prv n k)), .int (Y (prv n k))]) (rest := []) ⟨hx, hb, hml, hown, hts⟩ (k_Box_take l dC dI cI cZ cF H.size br ((X k).toInt) ((Y k).toInt) ((X k).toInt) ((Y k).toInt) (X (prv n k)) (Y (prv n k)) (⟨a1, a2, a1, a2⟩)) (csV_55 hts rfl rfl ⟨Nat.le_of_ble_eq_true rfl, Nat.le_of_ble_eq_true rfl⟩) (zPV2 (q0 := 0) (ci := 0) hPc hDc hK hXN rfl rfl) rfl rfl hl.1 rfl (lv_room (Nat.le_of_ble_eq_true rfl)) dX4_measureReach_47 ⟨Nat.le_of_ble_eq_true rfl, Nat.le_of_ble_eq_true rfl⟩) hS hFc hFc rfl (fun t H locs ht hB hk1 hS => ?_)
    obtain ⟨hP1, hD1⟩ := hB
    rw [ht] at hP1
    obtain ⟨hP, hD⟩ := zn (W2 := [_, (oc0 br (iI (min ((X k).toInt) (X (prv n k)).toInt)) (iI (min ((Y k).toInt) (Y (prv n k)).toInt)) (iI (max ((X k).toInt) (X (prv n k)).toInt)) (iI (max ((Y k).toInt) (Y (prv n k)).toInt))), _, _, _]) hP hD hk1 hFc hP1 hD1 [1] [true, false, true, true, true] [true, false, true, true, true] [1] (by decide +kernel) rfl rfl rfl rfl rfl
    clear hk1 hPc hDc hFc hP1 hD1 ht
    refine lv_aload_n hx hb dX4_measureReach_50 rfl (lv_at hl 0 rfl) ?_
    refine va_get (D := (dC, dI)) (ci := 3) (v := .ref br) (C := RX4) (T := TX4) (N := 6) hx hb hts inX4 hown hK hP 0 rfl rfl 3 (Nat.le_of_ble_eq_true rfl) (hts _ mw_223) (fun _ h9 => h9) rfl dX4_measureReach_51 ?_
    refine lv_aload_n hx hb dX4_measureReach_54 rfl (lv_at hl 1 rfl) ?_
    refine va_get (D := (dC, dI)) (ci := 6) (v := .ref rx) (C := RX7) (T := TX7) (N := 4) hx hb hts inX7 hown hK hP 2 rfl rfl 0 (Nat.le_of_ble_eq_true rfl) (hts _ mw_163) (fun _ h9 => h9) rfl dX4_measureReach_55 ?_
    refine lv_aload_n hx hb dX4_measureReach_58 rfl (lv_at hl 1 rfl) ?_
    refine lv_iload_n hx hb dX4_measureReach_59 rfl (lv_at hl 2 rfl) ?_
    obtain ⟨hPc, hDc, hFc, hI1⟩ := zi_sub (wc := [_, _, _]) hP hD hS hA [2, 3, 4] rfl rfl
    refine zcall (st1 := [.int (nI (nxt n k)), .ref rx, .ref br]) (va_runV (As := [.int (nI k)]) (rest := [.ref rx, .ref br]) ⟨hx, hb, hml, hown, hts⟩ (k_Row_next l dC dI cI cZ cF H.size r rx ry n cap X Y rg k (by first | with_reducible assumption | omega) (by first | with_reducible assumption | omega) (by first | with_reducible assumption | omega)) (csV_44 hts rfl rfl ⟨Nat.le_of_ble_eq_true rfl, Nat.le_of_ble_eq_true rfl⟩) (zPV2 (q0 := 0) (ci := 6) hPc hDc hK hXN rfl rfl) rfl rfl hl.1 rfl (lv_room (Nat.le_of_ble_eq_true rfl)) dX4_measureReach_60 ⟨Nat.le_of_ble_eq_true rfl, Nat.le_of_ble_eq_true rfl⟩) hS hFc hFc rfl (fun t H locs ht hB hk1 hS => ?_)
    obtain ⟨hP1, hD1⟩ := hB
    rw [ht] at hP1
    replace hP := z0 hP hD hk1 hP1 hI1
    clear hk1 hPc hDc hFc hP1 hD1 ht hI1
    have b9_6 : nxt n k < cap := by omega
    refine z_iald hx hb hK hP 3 0 rfl rfl (e := nxt n k) rfl b9_6 b9_4 dX4_measureReach_63 ?_
    refine lv_aload_n hx hb dX4_measureReach_64 rfl (lv_at hl 1 rfl) ?_
    refine va_get (D := (dC, dI)) (ci := 6) (v := .ref ry) (C := RX7) (T := TX7) (N := 4) hx hb hts inX7 hown hK hP 2 rfl rfl 1 (Nat.le_of_ble_eq_true rfl) (hts _ mw_170) (fun _ h9 => h9) rfl dX4_measureReach_65 ?_
    refine lv_aload_n hx hb dX4_measureReach_68 rfl (lv_at hl 1 rfl) ?_
    refine lv_iload_n hx hb dX4_measureReach_69 rfl (lv_at hl 2 rfl) ?_
    obtain ⟨hPc, hDc, hFc, hI1⟩ := zi_sub (wc := [_, _, _]) hP hD hS hA [2, 3, 4] rfl rfl
    refine zcall (st1 := [.int (nI (nxt n k)), .ref ry, .int (X (nxt n k)), .ref br]) (va_runV (As := [.int (nI k)]) (rest := [.ref ry, .int (X (nxt n k)), .ref br]) ⟨hx, hb, hml, hown, hts⟩ (k_Row_next l dC dI cI cZ cF H.size r rx ry n cap X Y rg k (by first | with_reducible assumption | omega) (by first | with_reducible assumption | omega) (by first | with_reducible assumption | omega)) (csV_44 hts rfl rfl ⟨Nat.le_of_ble_eq_true rfl, Nat.le_of_ble_eq_true rfl⟩) (zPV2 (q0 := 0) (ci := 6) hPc hDc hK hXN rfl rfl) rfl rfl hl.1 rfl (lv_room (Nat.le_of_ble_eq_true rfl)) dX4_measureReach_70 ⟨Nat.le_of_ble_eq_true rfl, Nat.le_of_ble_eq_true rfl⟩) hS hFc hFc rfl (fun t H locs ht hB hk1 hS => ?_)
    obtain ⟨hP1, hD1⟩ := hB
    rw [ht] at hP1
    replace hP := z0 hP hD hk1 hP1 hI1
    clear hk1 hPc hDc hFc hP1 hD1 ht hI1
    refine z_iald hx hb hK hP 4 0 rfl rfl (e := nxt n k) rfl b9_6 b9_4 dX4_measureReach_73 ?_
    obtain ⟨hPc, hDc, hFc⟩ := zo_sub (wc := [_]) hP hD hS hA [1] rfl rfl
    refine zcall (st1 := []) (va_runV (As := [.int (X (nxt n k)), .int (Y (nxt n k))]) (rest := []) ⟨hx, hb, hml, hown, hts⟩ (k_Box_take l dC dI cI cZ cF H.size br (min ((X k).toInt) (X (prv n k)).toInt) (min ((Y k).toInt) (Y (prv n k)).toInt) (max ((X k).toInt) (X (prv n k)).toInt) (max ((Y k).toInt) (Y (prv n k)).toInt) (X (nxt n k)) (Y (nxt n k)) (by unfold nr at *; omega)) (csV_55 hts rfl rfl ⟨Nat.le_of_ble_eq_true rfl, Nat.le_of_ble_eq_true rfl⟩) (zPV2 (q0 := 0) (ci := 0) hPc hDc hK hXN rfl rfl) rfl rfl hl.1 rfl (lv_room (Nat.le_of_ble_eq_true rfl)) dX4_measureReach_74 ⟨Nat.le_of_ble_eq_true rfl, Nat.le_of_ble_eq_true rfl⟩) hS hFc hFc rfl (fun t H locs ht hB hk1 hS => ?_)
    obtain ⟨hP1, hD1⟩ := hB
    rw [ht] at hP1
    obtain ⟨hP, hD⟩ := zn (W2 := [_, (oc0 br (iI (min (min ((X k).toInt) (X (prv n k)).toInt) (X (nxt n k)).toInt)) (iI (min (min ((Y k).toInt) (Y (prv n k)).toInt) (Y (nxt n k)).toInt)) (iI (max (max ((X k).toInt) (X (prv n k)).toInt) (X (nxt n k)).toInt)) (iI (max (max ((Y k).toInt) (Y (prv n k)).toInt) (Y (nxt n k)).toInt))), _, _, _]) hP hD hk1 hFc hP1 hD1 [1] [true, false, true, true, true] [true, false, true, true, true] [1] (by decide +kernel) rfl rfl rfl rfl rfl
    clear hk1 hPc hDc hFc hP1 hD1 ht
    obtain ⟨hP9, hD9⟩ := zu_sub (wc := [_, _, _, _, _]) hP hD [true, true, true, true, true] rfl rfl
    rw [hQ9]
    exact W.vret hx hb hr (fun t ht hW => ⟨⟨rfl, by rw [ht]; exact hP9, hD9⟩, hS.F ht⟩) hS.2.2 dX4_measureReach_77
set_option maxHeartbeats 4000000 in
set_option maxRecDepth 100000 in
theorem k_Law_isAsBefore_w (l : Launch) (dC : Nat → ClassId) (dI : Nat → Nat → Nat) (cI cZ cF : ClassId) (sz : Nat) (lw : Nat) (dr : Nat) (tg : Nat) (wy : Nat) (br : Nat) (bo : Nat) (aa : Nat) (tx : Nat) (ty : Nat) (nt : Nat) (TX : Nat → Int32) (TY : Nat → Int32) (rt : Int32) (wx : Nat) (wz : Nat) (nw : Nat) (WX : Nat → Int32) (WY : Nat → Int32) (rw : Int32) (dx : Nat) (dy : Nat) (nd : Nat) (cd : Nat) (P : Nat → Int32) (Q : Nat → Int32) (rd : Int32) (r : Nat) (rx : Nat) (ry : Nat) (n : Nat) (cap : Nat) (X : Nat → Int32) (Y : Nat → Int32) (rg : Int32) (u : Nat) (ux : Nat) (uy : Nat) (m2 : Nat) (cap2 : Nat) (U : Nat → Int32) (V : Nat → Int32) (rh : Int32) (hnd : nd ≤ cd) (hcd : cd ≤ 1000) (hpd : pls nd P Q) (hn : n ≤ cap) (hcap : cap ≤ 1000) (hp : pls n X Y) (hm : m2 ≤ cap2) (hcap2 : cap2 ≤ 1000) (hq : pls m2 U V) (h1m : 1 ≤ m2) (h1n : 1 ≤ n) (h1d : 1 ≤ nd) (hn1 : n = 1) : zM l yX4_isAsBefore cX4_isAsBefore 4 (some .boolean) ({ frames := 3, cells := 0, slots := 0, locals := 72 } : Room) [.ref lw, .ref r, .ref u, .int (-1)] (dC, dI) (zTy cI cZ cF) [(oc3 lw (.ref dr) (.ref tg) (.ref wy) (.ref br) (.ref bo) (.ref aa)), (oc6 tg (.ref tx) (.ref ty) (nI nt) rt), (oa tx cI 3 TX), (oa ty cI 3 TY), (oc6 wy (.ref wx) (.ref wz) (nI nw) rw), (oa wx cI 2 WX), (oa wz cI 2 WY), (oc6 dr (.ref dx) (.ref dy) (nI nd) rd), (oa dx cI cd P), (oa dy cI cd Q), (oc6 r (.ref rx) (.ref ry) (nI n) rg), (oa rx cI cap X), (oa ry cI cap Y), (oc6 u (.ref ux) (.ref uy) (nI m2) rh), (oa ux cI cap2 U), (oa uy cI cap2 V)] sz (some (.int (pI (asb n X Y rg nd P Q rd m2 U V rh ∧ (∀ k, k < prt m2 rh → wyF2 (X 0).toInt (Y 0).toInt (P 0).toInt (Q 0).toInt m2 U V k))))) (fun A t => ∃ (nt1 : Nat), ∃ (TX1 : Nat → Int32), ∃ (TY1 : Nat → Int32), ∃ (rt1 : Int32), ∃ (nw1 : Nat), ∃ (WX1 : Nat → Int32), ∃ (WY1 : Nat → Int32), ∃ (rw1 : Int32), zPD (dC, dI) classes A [(oc3 lw (.ref dr) (.ref tg) (.ref wy) (.ref br) (.ref bo) (.ref aa)), (oc6 tg (.ref tx) (.ref ty) (nI nt1) rt1), (oa tx cI 3 TX1), (oa ty cI 3 TY1), (oc6 wy (.ref wx) (.ref wz) (nI nw1) rw1), (oa wx cI 2 WX1), (oa wz cI 2 WY1), (oc6 dr (.ref dx) (.ref dy) (nI nd) rd), (oa dx cI cd P), (oa dy cI cd Q), (oc6 r (.ref rx) (.ref ry) (nI n) rg), (oa rx cI cap X), (oa ry cI cap Y), (oc6 u (.ref ux) (.ref uy) (nI m2) rh), (oa ux cI cap2 U), (oa uy cI cap2 V)] t.heap) 0 0 := by
  refine zIn (own := "ScaleShop$Law") (loc := [(0, .ref lw), (1, .ref r), (2, .ref u), (3, .int (-1))]) rfl rfl rfl rfl (fun p e s m below meth c hx hb hr hts hown hlocks hml hnm9 A hA hS hP hD hK hXN Q9 hQ9 ls hl => ?_)
  refine lv_aload_n hx hb dX4_isAsBefore_0 rfl (lv_at hl 1 rfl) ?_
  refine lv_aload_n hx hb dX4_isAsBefore_1 rfl (lv_at hl 2 rfl) ?_
  obtain ⟨hPc, hDc, hFc, hI1⟩ := zi_sub (wc := [_, _, _, _, _, _]) hP hD hS hA [10, 11, 12, 13, 14, 15] (by decide +kernel) rfl
  refine zcall (st1 := [.int (pI (∃ i, i < prt n rg ∧ ∃ j, j < prt m2 rh ∧ eMt n X Y i m2 U V j))]) (va_runV (As := [.ref u]) (rest := []) ⟨hx, hb, hml, hown, hts⟩ (k_Row_touches l dC dI cI cZ cF s.heap.size r rx ry n cap X Y rg u ux uy m2 cap2 U V rh (by first | with_reducible assumption | omega) (by first | with_reducible assumption | omega) (hp) (by first | with_reducible assumption | omega) (by first | with_reducible assumption | omega) (hq)) (csV_56 hts rfl rfl ⟨Nat.le_of_ble_eq_true rfl, Nat.le_of_ble_eq_true rfl⟩) (zPV2 (q0 := 0) (ci := 6) hPc hDc hK hXN rfl rfl) rfl rfl hl.1 rfl (lv_room (Nat.le_of_ble_eq_true rfl)) dX4_isAsBefore_2 ⟨Nat.le_of_ble_eq_true rfl, Nat.le_of_ble_eq_true rfl⟩) hS hFc hFc rfl (fun t H locs ht hB hk1 hS => ?_)
  obtain ⟨hP1, hD1⟩ := hB
  rw [ht] at hP1
  replace hP := z0 hP hD hk1 hP1 hI1
  clear hk1 hPc hDc hFc hP1 hD1 ht hI1
  refine lv_aload_n hx hb dX4_isAsBefore_5 rfl (lv_at hl 0 rfl) ?_
  refine va_get (D := (dC, dI)) (ci := 3) (v := .ref dr) (C := RX4) (T := TX4) (N := 6) hx hb hts inX4 hown hK hP 0 rfl rfl 0 (Nat.le_of_ble_eq_true rfl) (hts _ mw_219) (fun _ h9 => h9) rfl dX4_isAsBefore_6 ?_
  refine lv_aload_n hx hb dX4_isAsBefore_9 rfl (lv_at hl 2 rfl) ?_
  obtain ⟨hPc, hDc, hFc, hI1⟩ := zi_sub (wc := [_, _, _, _, _, _]) hP hD hS hA [7, 8, 9, 13, 14, 15] (by decide +kernel) rfl
  refine zcall (st1 := [.int (pI (∃ i, i < prt nd rd ∧ ∃ j, j < prt m2 rh ∧ eMt nd P Q i m2 U V j)), .int (pI (∃ i, i < prt n rg ∧ ∃ j, j < prt m2 rh ∧ eMt n X Y i m2 U V j))]) (va_runV (As := [.ref u]) (rest := [.int (pI (∃ i, i < prt n rg ∧ ∃ j, j < prt m2 rh ∧ eMt n X Y i m2 U V j))]) ⟨hx, hb, hml, hown, hts⟩ (k_Row_touches l dC dI cI cZ cF H.size dr dx dy nd cd P Q rd u ux uy m2 cap2 U V rh (by first | with_reducible assumption | omega) (by first | with_reducible assumption | omega) (hpd) (by first | with_reducible assumption | omega) (by first | with_reducible assumption | omega) (hq)) (csV_56 hts rfl rfl ⟨Nat.le_of_ble_eq_true rfl, Nat.le_of_ble_eq_true rfl⟩) (zPV2 (q0 := 0) (ci := 6) hPc hDc hK hXN rfl rfl) rfl rfl hl.1 rfl (lv_room (Nat.le_of_ble_eq_true rfl)) dX4_isAsBefore_10 ⟨Nat.le_of_ble_eq_true rfl, Nat.le_of_ble_eq_true rfl⟩) hS hFc hFc rfl (fun t H locs ht hB hk1 hS => ?_)
  obtain ⟨hP1, hD1⟩ := hB
  rw [ht] at hP1
  replace hP := z0 hP hD hk1 hP1 hI1
  clear hk1 hPc hDc hFc hP1 hD1 ht hI1
  refine lv_icmp_eq (tgt := 18) hx hb dX4_isAsBefore_13 rfl (fun c_1 => ?_) (fun c_1 => ?_)
  · have c_1 : (pI (∃ i, i < prt n rg ∧ ∃ j, j < prt m2 rh ∧ eMt n X Y i m2 U V j)).toInt = (pI (∃ i, i < prt nd rd ∧ ∃ j, j < prt m2 rh ∧ eMt nd P Q i m2 U V j)).toInt := zc_eq rfl rfl c_1
    refine lv_aload_n hx hb dX4_isAsBefore_18 rfl (lv_at hl 0 rfl) ?_
    refine va_get (D := (dC, dI)) (ci := 3) (v := .ref dr) (C := RX4) (T := TX4) (N := 6) hx hb hts inX4 hown hK hP 0 rfl rfl 0 (Nat.le_of_ble_eq_true rfl) (hts _ mw_219) (fun _ h9 => h9) rfl dX4_isAsBefore_19 ?_
    refine va_get (D := (dC, dI)) (ci := 6) (v := .int rd) (C := RX7) (T := TX7) (N := 4) hx hb hts inX7 hown hK hP 7 rfl rfl 3 (Nat.le_of_ble_eq_true rfl) (hts _ mw_184) (fun _ h9 => h9) rfl dX4_isAsBefore_22 ?_
    refine lv_if_eq (tgt := 39) hx hb dX4_isAsBefore_25 rfl (fun c_2 => ?_) (fun c_2 => ?_)
    · have c_2 : rd.toInt = 0 := zc_eq rfl rfl c_2
      refine lv_aload_n hx hb dX4_isAsBefore_39 rfl (lv_at hl 2 rfl) ?_
      refine va_get (D := (dC, dI)) (ci := 6) (v := .int rh) (C := RX7) (T := TX7) (N := 4) hx hb hts inX7 hown hK hP 13 rfl rfl 3 (Nat.le_of_ble_eq_true rfl) (hts _ mw_184) (fun _ h9 => h9) rfl dX4_isAsBefore_40 ?_
      refine lv_if_eq (tgt := 64) hx hb dX4_isAsBefore_43 rfl (fun c_3 => ?_) (fun c_3 => ?_)
      · have c_3 : rh.toInt = 0 := zc_eq rfl rfl c_3
        refine lv_aload_n hx hb dX4_isAsBefore_64 rfl (lv_at hl 1 rfl) ?_
        refine va_get (D := (dC, dI)) (ci := 6) (v := .int (nI n)) (C := RX7) (T := TX7) (N := 4) hx hb hts inX7 hown hK hP 10 rfl rfl 2 (Nat.le_of_ble_eq_true rfl) (hts _ mw_176) (fun _ h9 => h9) rfl dX4_isAsBefore_65 ?_
        refine lv_iconst (v := 1) hx hb dX4_isAsBefore_68 rfl ?_
        have b9_5 : zlt (n) := show n < 2147483648 by omega
        refine lv_icmp_ne (tgt := 79) hx hb dX4_isAsBefore_69 rfl (fun c_4 => ?_) (fun c_4 => ?_)
        · have c_4 : ¬ ((n : Nat) : Int) = 1 := zc_ne (nI_toInt b9_5) rfl c_4
          exfalso; omega
        · have c_4 : ((n : Nat) : Int) = 1 := zc_eq (nI_toInt b9_5) rfl c_4
          refine lv_aload_n hx hb dX4_isAsBefore_72 rfl (lv_at hl 0 rfl) ?_
          refine lv_aload_n hx hb dX4_isAsBefore_73 rfl (lv_at hl 1 rfl) ?_
          refine lv_aload_n hx hb dX4_isAsBefore_74 rfl (lv_at hl 2 rfl) ?_
          obtain ⟨hPc, hDc, hFc⟩ := zo_sub (wc := [_, _, _, _, _, _, _, _, _, _, _, _, _]) hP hD hS hA [0, 4, 5, 6, 7, 8, 9, 10, 11, 12, 13, 14, 15] (by decide +kernel) rfl
          refine zcall (st1 := [.int (pI (∀ k, k < prt m2 rh → wyF2 (X 0).toInt (Y 0).toInt (P 0).toInt (Q 0).toInt m2 U V k))]) (va_runV (As := [.ref r, .ref u]) (rest := []) ⟨hx, hb, hml, hown, hts⟩ (k_Law_isWayFree l dC dI cI cZ cF H.size lw dr tg wy br bo aa wx wz nw WX WY rw dx dy nd cd P Q rd r rx ry n cap X Y rg u ux uy m2 cap2 U V rh (by first | with_reducible assumption | omega) (by first | with_reducible assumption | omega) (by first | with_reducible assumption | assumption) (by first | with_reducible assumption | omega) (by first | with_reducible assumption | omega) (by first | with_reducible assumption | assumption) (by first | with_reducible assumption | omega) (by first | with_reducible assumption | omega) (by first | with_reducible assumption | assumption) (by first | with_reducible assumption | omega) (by first | with_reducible assumption | omega)) (csV_57 hts rfl rfl ⟨Nat.le_of_ble_eq_true rfl, Nat.le_of_ble_eq_true rfl⟩) (zPV2 (q0 := 0) (ci := 3) hPc hDc hK hXN rfl rfl) rfl rfl hl.1 rfl (lv_room (Nat.le_of_ble_eq_true rfl)) dX4_isAsBefore_75 ⟨Nat.le_of_ble_eq_true rfl, Nat.le_of_ble_eq_true rfl⟩) hS hFc hFc rfl (fun t H locs ht hB hk1 hS => ?_)
          obtain ⟨hP1, hD1⟩ := hB
          rw [ht] at hP1
          obtain ⟨hP, hD⟩ := zn (W2 := [_, _, _, _, (oc6 wy (.ref wx) (.ref wz) (nI 2) 0), (oa wx cI 2 (upd (upd WX 0 (X 0)) 1 (P 0))), (oa wz cI 2 (upd (upd WY 0 (Y 0)) 1 (Q 0))), _, _, _, _, _, _, _, _, _]) hP hD hk1 hFc hP1 hD1 zl_17 [false, true, true, true] zl_18 zl_17 (by decide +kernel) rfl rfl rfl rfl rfl
          clear hk1 hPc hDc hFc hP1 hD1 ht
          obtain ⟨hP9, hD9⟩ := zu_sub (wc := [_, _, _, _, _, _, _, _, _, _, _, _, _, _, _, _]) hP hD [true, true, true, true, true, true, true, true, true, true, true, true, true, true, true, true] rfl rfl
          rw [hQ9]
          exact W.zret (ty := .boolean) (v := pI (∀ k, k < prt m2 rh → wyF2 (X 0).toInt (Y 0).toInt (P 0).toInt (Q 0).toInt m2 U V k)) hx hb hr (zp_nar _) (fun t ht hW => ⟨⟨congrArg (fun z => Outcome.returned (some (Value.int z))) (show (pI (∀ k, k < prt m2 rh → wyF2 (X 0).toInt (Y 0).toInt (P 0).toInt (Q 0).toInt m2 U V k) : Int32) = pI (asb n X Y rg nd P Q rd m2 U V rh ∧ (∀ k, k < prt m2 rh → wyF2 (X 0).toInt (Y 0).toInt (P 0).toInt (Q 0).toInt m2 U V k)) from zp_iff ⟨fun h => ⟨⟨zp_ieq.mp (by first | with_reducible assumption | assumption), fun h9 => by first | with_reducible assumption | assumption | exact absurd (by first | with_reducible assumption | assumption) h9, fun h9 => by first | exact zp_ieq.mp (by first | with_reducible assumption | assumption) | exact absurd (by first | with_reducible assumption | assumption) h9⟩, h⟩, fun h => h.2⟩), nt, TX, TY, rt, 2, (upd (upd WX 0 (X 0)) 1 (P 0)), (upd (upd WY 0 (Y 0)) 1 (Q 0)), 0, by rw [ht]; exact hP9, hD9⟩, hS.F ht⟩) hS.2.2 dX4_isAsBefore_78
      · have c_3 : ¬ rh.toInt = 0 := zc_ne rfl rfl c_3
        refine lv_aload_n hx hb dX4_isAsBefore_46 rfl (lv_at hl 2 rfl) ?_
        refine lv_aload_n hx hb dX4_isAsBefore_47 rfl (lv_at hl 1 rfl) ?_
        obtain ⟨hPc, hDc, hFc, hI1⟩ := zi_sub (wc := [_, _, _, _, _, _]) hP hD hS hA [13, 14, 15, 10, 11, 12] (by decide +kernel) rfl
        refine zcall (st1 := [.int (pI (inF 5 m2 U V (X 0).toInt (Y 0).toInt))]) (va_runS (As := [.ref u, .ref r]) (rest := []) ⟨hx, hb, hml, hown, hts⟩ (k_Law_isIn l dC dI cI cZ cF H.size u ux uy m2 cap2 U V rh r rx ry n cap X Y rg (by first | with_reducible assumption | omega) (by first | with_reducible assumption | omega) (hq) (by first | with_reducible assumption | omega) (by first | with_reducible assumption | omega) (hp) (by first | with_reducible assumption | omega)) (csS_61 hts rfl rfl ⟨Nat.le_of_ble_eq_true rfl, Nat.le_of_ble_eq_true rfl⟩) (zPS2 hPc hDc hK hXN) rfl rfl hl.1 rfl (lv_room (Nat.le_of_ble_eq_true rfl)) dX4_isAsBefore_48 ⟨Nat.le_of_ble_eq_true rfl, Nat.le_of_ble_eq_true rfl⟩) hS hFc hFc rfl (fun t H locs ht hB hk1 hS => ?_)
        obtain ⟨hP1, hD1⟩ := hB
        rw [ht] at hP1
        replace hP := z0 hP hD hk1 hP1 hI1
        clear hk1 hPc hDc hFc hP1 hD1 ht hI1
        refine lv_aload_n hx hb dX4_isAsBefore_51 rfl (lv_at hl 2 rfl) ?_
        refine lv_aload_n hx hb dX4_isAsBefore_52 rfl (lv_at hl 0 rfl) ?_
        refine va_get (D := (dC, dI)) (ci := 3) (v := .ref dr) (C := RX4) (T := TX4) (N := 6) hx hb hts inX4 hown hK hP 0 rfl rfl 0 (Nat.le_of_ble_eq_true rfl) (hts _ mw_219) (fun _ h9 => h9) rfl dX4_isAsBefore_53 ?_
        obtain ⟨hPc, hDc, hFc, hI1⟩ := zi_sub (wc := [_, _, _, _, _, _]) hP hD hS hA [13, 14, 15, 7, 8, 9] (by decide +kernel) rfl
        refine zcall (st1 := [.int (pI (inF 5 m2 U V (P 0).toInt (Q 0).toInt)), .int (pI (inF 5 m2 U V (X 0).toInt (Y 0).toInt))]) (va_runS (As := [.ref u, .ref dr]) (rest := [.int (pI (inF 5 m2 U V (X 0).toInt (Y 0).toInt))]) ⟨hx, hb, hml, hown, hts⟩ (k_Law_isIn l dC dI cI cZ cF H.size u ux uy m2 cap2 U V rh dr dx dy nd cd P Q rd (by first | with_reducible assumption | omega) (by first | with_reducible assumption | omega) (hq) (by first | with_reducible assumption | omega) (by first | with_reducible assumption | omega) (hpd) (by first | with_reducible assumption | omega)) (csS_61 hts rfl rfl ⟨Nat.le_of_ble_eq_true rfl, Nat.le_of_ble_eq_true rfl⟩) (zPS2 hPc hDc hK hXN) rfl rfl hl.1 rfl (lv_room (Nat.le_of_ble_eq_true rfl)) dX4_isAsBefore_56 ⟨Nat.le_of_ble_eq_true rfl, Nat.le_of_ble_eq_true rfl⟩) hS hFc hFc rfl (fun t H locs ht hB hk1 hS => ?_)
        obtain ⟨hP1, hD1⟩ := hB
        rw [ht] at hP1
        replace hP := z0 hP hD hk1 hP1 hI1
        clear hk1 hPc hDc hFc hP1 hD1 ht hI1
        refine lv_icmp_eq (tgt := 64) hx hb dX4_isAsBefore_59 rfl (fun c_6 => ?_) (fun c_6 => ?_)
        · have c_6 : (pI (inF 5 m2 U V (X 0).toInt (Y 0).toInt)).toInt = (pI (inF 5 m2 U V (P 0).toInt (Q 0).toInt)).toInt := zc_eq rfl rfl c_6
          refine lv_aload_n hx hb dX4_isAsBefore_64 rfl (lv_at hl 1 rfl) ?_
          refine va_get (D := (dC, dI)) (ci := 6) (v := .int (nI n)) (C := RX7) (T := TX7) (N := 4) hx hb hts inX7 hown hK hP 10 rfl rfl 2 (Nat.le_of_ble_eq_true rfl) (hts _ mw_176) (fun _ h9 => h9) rfl dX4_isAsBefore_65 ?_
          refine lv_iconst (v := 1) hx hb dX4_isAsBefore_68 rfl ?_
          have b9_8 : zlt (n) := show n < 2147483648 by omega
          refine lv_icmp_ne (tgt := 79) hx hb dX4_isAsBefore_69 rfl (fun c_7 => ?_) (fun c_7 => ?_)
          · have c_7 : ¬ ((n : Nat) : Int) = 1 := zc_ne (nI_toInt b9_8) rfl c_7
            exfalso; omega
          · have c_7 : ((n : Nat) : Int) = 1 := zc_eq (nI_toInt b9_8) rfl c_7
            refine lv_aload_n hx hb dX4_isAsBefore_72 rfl (lv_at hl 0 rfl) ?_
            refine lv_aload_n hx hb dX4_isAsBefore_73 rfl (lv_at hl 1 rfl) ?_
            refine lv_aload_n hx hb dX4_isAsBefore_74 rfl (lv_at hl 2 rfl) ?_
            obtain ⟨hPc, hDc, hFc⟩ := zo_sub (wc := [_, _, _, _, _, _, _, _, _, _, _, _, _]) hP hD hS hA [0, 4, 5, 6, 7, 8, 9, 10, 11, 12, 13, 14, 15] (by decide +kernel) rfl
            refine zcall (st1 := [.int (pI (∀ k, k < prt m2 rh → wyF2 (X 0).toInt (Y 0).toInt (P 0).toInt (Q 0).toInt m2 U V k))]) (va_runV (As := [.ref r, .ref u]) (rest := []) ⟨hx, hb, hml, hown, hts⟩ (k_Law_isWayFree l dC dI cI cZ cF H.size lw dr tg wy br bo aa wx wz nw WX WY rw dx dy nd cd P Q rd r rx ry n cap X Y rg u ux uy m2 cap2 U V rh (by first | with_reducible assumption | omega) (by first | with_reducible assumption | omega) (by first | with_reducible assumption | assumption) (by first | with_reducible assumption | omega) (by first | with_reducible assumption | omega) (by first | with_reducible assumption | assumption) (by first | with_reducible assumption | omega) (by first | with_reducible assumption | omega) (by first | with_reducible assumption | assumption) (by first | with_reducible assumption | omega) (by first | with_reducible assumption | omega)) (csV_57 hts rfl rfl ⟨Nat.le_of_ble_eq_true rfl, Nat.le_of_ble_eq_true rfl⟩) (zPV2 (q0 := 0) (ci := 3) hPc hDc hK hXN rfl rfl) rfl rfl hl.1 rfl (lv_room (Nat.le_of_ble_eq_true rfl)) dX4_isAsBefore_75 ⟨Nat.le_of_ble_eq_true rfl, Nat.le_of_ble_eq_true rfl⟩) hS hFc hFc rfl (fun t H locs ht hB hk1 hS => ?_)
            obtain ⟨hP1, hD1⟩ := hB
            rw [ht] at hP1
            obtain ⟨hP, hD⟩ := zn (W2 := [_, _, _, _, (oc6 wy (.ref wx) (.ref wz) (nI 2) 0), (oa wx cI 2 (upd (upd WX 0 (X 0)) 1 (P 0))), (oa wz cI 2 (upd (upd WY 0 (Y 0)) 1 (Q 0))), _, _, _, _, _, _, _, _, _]) hP hD hk1 hFc hP1 hD1 zl_17 [false, true, true, true] zl_18 zl_17 (by decide +kernel) rfl rfl rfl rfl rfl
            clear hk1 hPc hDc hFc hP1 hD1 ht
            obtain ⟨hP9, hD9⟩ := zu_sub (wc := [_, _, _, _, _, _, _, _, _, _, _, _, _, _, _, _]) hP hD [true, true, true, true, true, true, true, true, true, true, true, true, true, true, true, true] rfl rfl
            rw [hQ9]
            exact W.zret (ty := .boolean) (v := pI (∀ k, k < prt m2 rh → wyF2 (X 0).toInt (Y 0).toInt (P 0).toInt (Q 0).toInt m2 U V k)) hx hb hr (zp_nar _) (fun t ht hW => ⟨⟨congrArg (fun z => Outcome.returned (some (Value.int z))) (show (pI (∀ k, k < prt m2 rh → wyF2 (X 0).toInt (Y 0).toInt (P 0).toInt (Q 0).toInt m2 U V k) : Int32) = pI (asb n X Y rg nd P Q rd m2 U V rh ∧ (∀ k, k < prt m2 rh → wyF2 (X 0).toInt (Y 0).toInt (P 0).toInt (Q 0).toInt m2 U V k)) from zp_iff ⟨fun h => ⟨⟨zp_ieq.mp (by first | with_reducible assumption | assumption), fun h9 => by first | with_reducible assumption | assumption | exact absurd (by first | with_reducible assumption | assumption) h9, fun h9 => by first | exact zp_ieq.mp (by first | with_reducible assumption | assumption) | exact absurd (by first | with_reducible assumption | assumption) h9⟩, h⟩, fun h => h.2⟩), nt, TX, TY, rt, 2, (upd (upd WX 0 (X 0)) 1 (P 0)), (upd (upd WY 0 (Y 0)) 1 (Q 0)), 0, by rw [ht]; exact hP9, hD9⟩, hS.F ht⟩) hS.2.2 dX4_isAsBefore_78
        · have c_6 : ¬ (pI (inF 5 m2 U V (X 0).toInt (Y 0).toInt)).toInt = (pI (inF 5 m2 U V (P 0).toInt (Q 0).toInt)).toInt := zc_ne rfl rfl c_6
          refine lv_iconst (v := 0) hx hb dX4_isAsBefore_62 rfl ?_
          obtain ⟨hP9, hD9⟩ := zu_sub (wc := [_, _, _, _, _, _, _, _, _, _, _, _, _, _, _, _]) hP hD [true, true, true, true, true, true, true, true, true, true, true, true, true, true, true, true] rfl rfl
          rw [hQ9]
          exact W.zret (ty := .boolean) (v := 0) hx hb hr (rfl) (fun t ht hW => ⟨⟨congrArg (fun z => Outcome.returned (some (Value.int z))) (show (0 : Int32) = pI (asb n X Y rg nd P Q rd m2 U V rh ∧ (∀ k, k < prt m2 rh → wyF2 (X 0).toInt (Y 0).toInt (P 0).toInt (Q 0).toInt m2 U V k)) from (zp_f (fun h => absurd (zp_ieq.mpr (h.1.2.2 (by first | with_reducible assumption | assumption))) (by first | with_reducible assumption | assumption))).symm), nt, TX, TY, rt, nw, WX, WY, rw, by rw [ht]; exact hP9, hD9⟩, hS.F ht⟩) hS.2.2 dX4_isAsBefore_63
    · have c_2 : ¬ rd.toInt = 0 := zc_ne rfl rfl c_2
      refine lv_aload_n hx hb dX4_isAsBefore_28 rfl (lv_at hl 0 rfl) ?_
      refine lv_aload_n hx hb dX4_isAsBefore_29 rfl (lv_at hl 1 rfl) ?_
      refine lv_aload_n hx hb dX4_isAsBefore_30 rfl (lv_at hl 2 rfl) ?_
      obtain ⟨hPc, hDc, hFc, hI1⟩ := zi_sub (wc := [_, _, _, _, _, _, _, _, _, _]) hP hD hS hA [0, 7, 8, 9, 10, 11, 12, 13, 14, 15] (by decide +kernel) rfl
      refine zcall (st1 := [.int (pI (∀ k, k < m2 → (inF 5 n X Y (U k).toInt (V k).toInt ↔ inF 5 nd P Q (U k).toInt (V k).toInt)))]) (va_runV (As := [.ref r, .ref u]) (rest := []) ⟨hx, hb, hml, hown, hts⟩ (k_Law_holdsAsBefore l dC dI cI cZ cF H.size lw dr tg wy br bo aa dx dy nd cd P Q rd r rx ry n cap X Y rg u ux uy m2 cap2 U V rh (by first | with_reducible assumption | omega) (by first | with_reducible assumption | omega) (by first | with_reducible assumption | assumption) (by first | with_reducible assumption | omega) (by first | with_reducible assumption | omega) (by first | with_reducible assumption | assumption) (by first | with_reducible assumption | omega) (by first | with_reducible assumption | omega) (by first | with_reducible assumption | assumption)) (csV_58 hts rfl rfl ⟨Nat.le_of_ble_eq_true rfl, Nat.le_of_ble_eq_true rfl⟩) (zPV2 (q0 := 0) (ci := 3) hPc hDc hK hXN rfl rfl) rfl rfl hl.1 rfl (lv_room (Nat.le_of_ble_eq_true rfl)) dX4_isAsBefore_31 ⟨Nat.le_of_ble_eq_true rfl, Nat.le_of_ble_eq_true rfl⟩) hS hFc hFc rfl (fun t H locs ht hB hk1 hS => ?_)
      obtain ⟨hP1, hD1⟩ := hB
      rw [ht] at hP1
      replace hP := z0 hP hD hk1 hP1 hI1
      clear hk1 hPc hDc hFc hP1 hD1 ht hI1
      refine lv_if_ne (tgt := 39) hx hb dX4_isAsBefore_34 rfl (fun c_9 => ?_) (fun c_9 => ?_)
      · have c_9 : ∀ k, k < m2 → (inF 5 n X Y (U k).toInt (V k).toInt ↔ inF 5 nd P Q (U k).toInt (V k).toInt) := zp_1 c_9
        refine lv_aload_n hx hb dX4_isAsBefore_39 rfl (lv_at hl 2 rfl) ?_
        refine va_get (D := (dC, dI)) (ci := 6) (v := .int rh) (C := RX7) (T := TX7) (N := 4) hx hb hts inX7 hown hK hP 13 rfl rfl 3 (Nat.le_of_ble_eq_true rfl) (hts _ mw_184) (fun _ h9 => h9) rfl dX4_isAsBefore_40 ?_
        refine lv_if_eq (tgt := 64) hx hb dX4_isAsBefore_43 rfl (fun c_10 => ?_) (fun c_10 => ?_)
        · have c_10 : rh.toInt = 0 := zc_eq rfl rfl c_10
          refine lv_aload_n hx hb dX4_isAsBefore_64 rfl (lv_at hl 1 rfl) ?_
          refine va_get (D := (dC, dI)) (ci := 6) (v := .int (nI n)) (C := RX7) (T := TX7) (N := 4) hx hb hts inX7 hown hK hP 10 rfl rfl 2 (Nat.le_of_ble_eq_true rfl) (hts _ mw_176) (fun _ h9 => h9) rfl dX4_isAsBefore_65 ?_
          refine lv_iconst (v := 1) hx hb dX4_isAsBefore_68 rfl ?_
          have b9_12 : zlt (n) := show n < 2147483648 by omega
          refine lv_icmp_ne (tgt := 79) hx hb dX4_isAsBefore_69 rfl (fun c_11 => ?_) (fun c_11 => ?_)
          · have c_11 : ¬ ((n : Nat) : Int) = 1 := zc_ne (nI_toInt b9_12) rfl c_11
            exfalso; omega
          · have c_11 : ((n : Nat) : Int) = 1 := zc_eq (nI_toInt b9_12) rfl c_11
            refine lv_aload_n hx hb dX4_isAsBefore_72 rfl (lv_at hl 0 rfl) ?_
            refine lv_aload_n hx hb dX4_isAsBefore_73 rfl (lv_at hl 1 rfl) ?_
            refine lv_aload_n hx hb dX4_isAsBefore_74 rfl (lv_at hl 2 rfl) ?_
            obtain ⟨hPc, hDc, hFc⟩ := zo_sub (wc := [_, _, _, _, _, _, _, _, _, _, _, _, _]) hP hD hS hA [0, 4, 5, 6, 7, 8, 9, 10, 11, 12, 13, 14, 15] (by decide +kernel) rfl
            refine zcall (st1 := [.int (pI (∀ k, k < prt m2 rh → wyF2 (X 0).toInt (Y 0).toInt (P 0).toInt (Q 0).toInt m2 U V k))]) (va_runV (As := [.ref r, .ref u]) (rest := []) ⟨hx, hb, hml, hown, hts⟩ (k_Law_isWayFree l dC dI cI cZ cF H.size lw dr tg wy br bo aa wx wz nw WX WY rw dx dy nd cd P Q rd r rx ry n cap X Y rg u ux uy m2 cap2 U V rh (by first | with_reducible assumption | omega) (by first | with_reducible assumption | omega) (by first | with_reducible assumption | assumption) (by first | with_reducible assumption | omega) (by first | with_reducible assumption | omega) (by first | with_reducible assumption | assumption) (by first | with_reducible assumption | omega) (by first | with_reducible assumption | omega) (by first | with_reducible assumption | assumption) (by first | with_reducible assumption | omega) (by first | with_reducible assumption | omega)) (csV_57 hts rfl rfl ⟨Nat.le_of_ble_eq_true rfl, Nat.le_of_ble_eq_true rfl⟩) (zPV2 (q0 := 0) (ci := 3) hPc hDc hK hXN rfl rfl) rfl rfl hl.1 rfl (lv_room (Nat.le_of_ble_eq_true rfl)) dX4_isAsBefore_75 ⟨Nat.le_of_ble_eq_true rfl, Nat.le_of_ble_eq_true rfl⟩) hS hFc hFc rfl (fun t H locs ht hB hk1 hS => ?_)
            obtain ⟨hP1, hD1⟩ := hB
            rw [ht] at hP1
            obtain ⟨hP, hD⟩ := zn (W2 := [_, _, _, _, (oc6 wy (.ref wx) (.ref wz) (nI 2) 0), (oa wx cI 2 (upd (upd WX 0 (X 0)) 1 (P 0))), (oa wz cI 2 (upd (upd WY 0 (Y 0)) 1 (Q 0))), _, _, _, _, _, _, _, _, _]) hP hD hk1 hFc hP1 hD1 zl_17 [false, true, true, true] zl_18 zl_17 (by decide +kernel) rfl rfl rfl rfl rfl
            clear hk1 hPc hDc hFc hP1 hD1 ht
            obtain ⟨hP9, hD9⟩ := zu_sub (wc := [_, _, _, _, _, _, _, _, _, _, _, _, _, _, _, _]) hP hD [true, true, true, true, true, true, true, true, true, true, true, true, true, true, true, true] rfl rfl
            rw [hQ9]
            exact W.zret (ty := .boolean) (v := pI (∀ k, k < prt m2 rh → wyF2 (X 0).toInt (Y 0).toInt (P 0).toInt (Q 0).toInt m2 U V k)) hx hb hr (zp_nar _) (fun t ht hW => ⟨⟨congrArg (fun z => Outcome.returned (some (Value.int z))) (show (pI (∀ k, k < prt m2 rh → wyF2 (X 0).toInt (Y 0).toInt (P 0).toInt (Q 0).toInt m2 U V k) : Int32) = pI (asb n X Y rg nd P Q rd m2 U V rh ∧ (∀ k, k < prt m2 rh → wyF2 (X 0).toInt (Y 0).toInt (P 0).toInt (Q 0).toInt m2 U V k)) from zp_iff ⟨fun h => ⟨⟨zp_ieq.mp (by first | with_reducible assumption | assumption), fun h9 => by first | with_reducible assumption | assumption | exact absurd (by first | with_reducible assumption | assumption) h9, fun h9 => by first | exact zp_ieq.mp (by first | with_reducible assumption | assumption) | exact absurd (by first | with_reducible assumption | assumption) h9⟩, h⟩, fun h => h.2⟩), nt, TX, TY, rt, 2, (upd (upd WX 0 (X 0)) 1 (P 0)), (upd (upd WY 0 (Y 0)) 1 (Q 0)), 0, by rw [ht]; exact hP9, hD9⟩, hS.F ht⟩) hS.2.2 dX4_isAsBefore_78
        · have c_10 : ¬ rh.toInt = 0 := zc_ne rfl rfl c_10
          refine lv_aload_n hx hb dX4_isAsBefore_46 rfl (lv_at hl 2 rfl) ?_
          refine lv_aload_n hx hb dX4_isAsBefore_47 rfl (lv_at hl 1 rfl) ?_
          obtain ⟨hPc, hDc, hFc, hI1⟩ := zi_sub (wc := [_, _, _, _, _, _]) hP hD hS hA [13, 14, 15, 10, 11, 12] (by decide +kernel) rfl
          refine zcall (st1 := [.int (pI (inF 5 m2 U V (X 0).toInt (Y 0).toInt))]) (va_runS (As := [.ref u, .ref r]) (rest := []) ⟨hx, hb, hml, hown, hts⟩ (k_Law_isIn l dC dI cI cZ cF H.size u ux uy m2 cap2 U V rh r rx ry n cap X Y rg (by first | with_reducible assumption | omega) (by first | with_reducible assumption | omega) (hq) (by first | with_reducible assumption | omega) (by first | with_reducible assumption | omega) (hp) (by first | with_reducible assumption | omega)) (csS_61 hts rfl rfl ⟨Nat.le_of_ble_eq_true rfl, Nat.le_of_ble_eq_true rfl⟩) (zPS2 hPc hDc hK hXN) rfl rfl hl.1 rfl (lv_room (Nat.le_of_ble_eq_true rfl)) dX4_isAsBefore_48 ⟨Nat.le_of_ble_eq_true rfl, Nat.le_of_ble_eq_true rfl⟩) hS hFc hFc rfl (fun t H locs ht hB hk1 hS => ?_)
          obtain ⟨hP1, hD1⟩ := hB
          rw [ht] at hP1
          replace hP := z0 hP hD hk1 hP1 hI1
          clear hk1 hPc hDc hFc hP1 hD1 ht hI1
          refine lv_aload_n hx hb dX4_isAsBefore_51 rfl (lv_at hl 2 rfl) ?_
          refine lv_aload_n hx hb dX4_isAsBefore_52 rfl (lv_at hl 0 rfl) ?_
          refine va_get (D := (dC, dI)) (ci := 3) (v := .ref dr) (C := RX4) (T := TX4) (N := 6) hx hb hts inX4 hown hK hP 0 rfl rfl 0 (Nat.le_of_ble_eq_true rfl) (hts _ mw_219) (fun _ h9 => h9) rfl dX4_isAsBefore_53 ?_
          obtain ⟨hPc, hDc, hFc, hI1⟩ := zi_sub (wc := [_, _, _, _, _, _]) hP hD hS hA [13, 14, 15, 7, 8, 9] (by decide +kernel) rfl
          refine zcall (st1 := [.int (pI (inF 5 m2 U V (P 0).toInt (Q 0).toInt)), .int (pI (inF 5 m2 U V (X 0).toInt (Y 0).toInt))]) (va_runS (As := [.ref u, .ref dr]) (rest := [.int (pI (inF 5 m2 U V (X 0).toInt (Y 0).toInt))]) ⟨hx, hb, hml, hown, hts⟩ (k_Law_isIn l dC dI cI cZ cF H.size u ux uy m2 cap2 U V rh dr dx dy nd cd P Q rd (by first | with_reducible assumption | omega) (by first | with_reducible assumption | omega) (hq) (by first | with_reducible assumption | omega) (by first | with_reducible assumption | omega) (hpd) (by first | with_reducible assumption | omega)) (csS_61 hts rfl rfl ⟨Nat.le_of_ble_eq_true rfl, Nat.le_of_ble_eq_true rfl⟩) (zPS2 hPc hDc hK hXN) rfl rfl hl.1 rfl (lv_room (Nat.le_of_ble_eq_true rfl)) dX4_isAsBefore_56 ⟨Nat.le_of_ble_eq_true rfl, Nat.le_of_ble_eq_true rfl⟩) hS hFc hFc rfl (fun t H locs ht hB hk1 hS => ?_)
          obtain ⟨hP1, hD1⟩ := hB
          rw [ht] at hP1
          replace hP := z0 hP hD hk1 hP1 hI1
          clear hk1 hPc hDc hFc hP1 hD1 ht hI1
          refine lv_icmp_eq (tgt := 64) hx hb dX4_isAsBefore_59 rfl (fun c_13 => ?_) (fun c_13 => ?_)
          · have c_13 : (pI (inF 5 m2 U V (X 0).toInt (Y 0).toInt)).toInt = (pI (inF 5 m2 U V (P 0).toInt (Q 0).toInt)).toInt := zc_eq rfl rfl c_13
            refine lv_aload_n hx hb dX4_isAsBefore_64 rfl (lv_at hl 1 rfl) ?_
            refine va_get (D := (dC, dI)) (ci := 6) (v := .int (nI n)) (C := RX7) (T := TX7) (N := 4) hx hb hts inX7 hown hK hP 10 rfl rfl 2 (Nat.le_of_ble_eq_true rfl) (hts _ mw_176) (fun _ h9 => h9) rfl dX4_isAsBefore_65 ?_
            refine lv_iconst (v := 1) hx hb dX4_isAsBefore_68 rfl ?_
            have b9_15 : zlt (n) := show n < 2147483648 by omega
            refine lv_icmp_ne (tgt := 79) hx hb dX4_isAsBefore_69 rfl (fun c_14 => ?_) (fun c_14 => ?_)
            · have c_14 : ¬ ((n : Nat) : Int) = 1 := zc_ne (nI_toInt b9_15) rfl c_14
              exfalso; omega
            · have c_14 : ((n : Nat) : Int) = 1 := zc_eq (nI_toInt b9_15) rfl c_14
              refine lv_aload_n hx hb dX4_isAsBefore_72 rfl (lv_at hl 0 rfl) ?_
              refine lv_aload_n hx hb dX4_isAsBefore_73 rfl (lv_at hl 1 rfl) ?_
              refine lv_aload_n hx hb dX4_isAsBefore_74 rfl (lv_at hl 2 rfl) ?_
              obtain ⟨hPc, hDc, hFc⟩ := zo_sub (wc := [_, _, _, _, _, _, _, _, _, _, _, _, _]) hP hD hS hA [0, 4, 5, 6, 7, 8, 9, 10, 11, 12, 13, 14, 15] (by decide +kernel) rfl
              refine zcall (st1 := [.int (pI (∀ k, k < prt m2 rh → wyF2 (X 0).toInt (Y 0).toInt (P 0).toInt (Q 0).toInt m2 U V k))]) (va_runV (As := [.ref r, .ref u]) (rest := []) ⟨hx, hb, hml, hown, hts⟩ (k_Law_isWayFree l dC dI cI cZ cF H.size lw dr tg wy br bo aa wx wz nw WX WY rw dx dy nd cd P Q rd r rx ry n cap X Y rg u ux uy m2 cap2 U V rh (by first | with_reducible assumption | omega) (by first | with_reducible assumption | omega) (by first | with_reducible assumption | assumption) (by first | with_reducible assumption | omega) (by first | with_reducible assumption | omega) (by first | with_reducible assumption | assumption) (by first | with_reducible assumption | omega) (by first | with_reducible assumption | omega) (by first | with_reducible assumption | assumption) (by first | with_reducible assumption | omega) (by first | with_reducible assumption | omega)) (csV_57 hts rfl rfl ⟨Nat.le_of_ble_eq_true rfl, Nat.le_of_ble_eq_true rfl⟩) (zPV2 (q0 := 0) (ci := 3) hPc hDc hK hXN rfl rfl) rfl rfl hl.1 rfl (lv_room (Nat.le_of_ble_eq_true rfl)) dX4_isAsBefore_75 ⟨Nat.le_of_ble_eq_true rfl, Nat.le_of_ble_eq_true rfl⟩) hS hFc hFc rfl (fun t H locs ht hB hk1 hS => ?_)
              obtain ⟨hP1, hD1⟩ := hB
              rw [ht] at hP1
              obtain ⟨hP, hD⟩ := zn (W2 := [_, _, _, _, (oc6 wy (.ref wx) (.ref wz) (nI 2) 0), (oa wx cI 2 (upd (upd WX 0 (X 0)) 1 (P 0))), (oa wz cI 2 (upd (upd WY 0 (Y 0)) 1 (Q 0))), _, _, _, _, _, _, _, _, _]) hP hD hk1 hFc hP1 hD1 zl_17 [false, true, true, true] zl_18 zl_17 (by decide +kernel) rfl rfl rfl rfl rfl
              clear hk1 hPc hDc hFc hP1 hD1 ht
              obtain ⟨hP9, hD9⟩ := zu_sub (wc := [_, _, _, _, _, _, _, _, _, _, _, _, _, _, _, _]) hP hD [true, true, true, true, true, true, true, true, true, true, true, true, true, true, true, true] rfl rfl
              rw [hQ9]
              exact W.zret (ty := .boolean) (v := pI (∀ k, k < prt m2 rh → wyF2 (X 0).toInt (Y 0).toInt (P 0).toInt (Q 0).toInt m2 U V k)) hx hb hr (zp_nar _) (fun t ht hW => ⟨⟨congrArg (fun z => Outcome.returned (some (Value.int z))) (show (pI (∀ k, k < prt m2 rh → wyF2 (X 0).toInt (Y 0).toInt (P 0).toInt (Q 0).toInt m2 U V k) : Int32) = pI (asb n X Y rg nd P Q rd m2 U V rh ∧ (∀ k, k < prt m2 rh → wyF2 (X 0).toInt (Y 0).toInt (P 0).toInt (Q 0).toInt m2 U V k)) from zp_iff ⟨fun h => ⟨⟨zp_ieq.mp (by first | with_reducible assumption | assumption), fun h9 => by first | with_reducible assumption | assumption | exact absurd (by first | with_reducible assumption | assumption) h9, fun h9 => by first | exact zp_ieq.mp (by first | with_reducible assumption | assumption) | exact absurd (by first | with_reducible assumption | assumption) h9⟩, h⟩, fun h => h.2⟩), nt, TX, TY, rt, 2, (upd (upd WX 0 (X 0)) 1 (P 0)), (upd (upd WY 0 (Y 0)) 1 (Q 0)), 0, by rw [ht]; exact hP9, hD9⟩, hS.F ht⟩) hS.2.2 dX4_isAsBefore_78
          · have c_13 : ¬ (pI (inF 5 m2 U V (X 0).toInt (Y 0).toInt)).toInt = (pI (inF 5 m2 U V (P 0).toInt (Q 0).toInt)).toInt := zc_ne rfl rfl c_13
            refine lv_iconst (v := 0) hx hb dX4_isAsBefore_62 rfl ?_
            obtain ⟨hP9, hD9⟩ := zu_sub (wc := [_, _, _, _, _, _, _, _, _, _, _, _, _, _, _, _]) hP hD [true, true, true, true, true, true, true, true, true, true, true, true, true, true, true, true] rfl rfl
            rw [hQ9]
            exact W.zret (ty := .boolean) (v := 0) hx hb hr (rfl) (fun t ht hW => ⟨⟨congrArg (fun z => Outcome.returned (some (Value.int z))) (show (0 : Int32) = pI (asb n X Y rg nd P Q rd m2 U V rh ∧ (∀ k, k < prt m2 rh → wyF2 (X 0).toInt (Y 0).toInt (P 0).toInt (Q 0).toInt m2 U V k)) from (zp_f (fun h => absurd (zp_ieq.mpr (h.1.2.2 (by first | with_reducible assumption | assumption))) (by first | with_reducible assumption | assumption))).symm), nt, TX, TY, rt, nw, WX, WY, rw, by rw [ht]; exact hP9, hD9⟩, hS.F ht⟩) hS.2.2 dX4_isAsBefore_63
      · have c_9 : ¬ (∀ k, k < m2 → (inF 5 n X Y (U k).toInt (V k).toInt ↔ inF 5 nd P Q (U k).toInt (V k).toInt)) := zp_0 c_9
        refine lv_iconst (v := 0) hx hb dX4_isAsBefore_37 rfl ?_
        obtain ⟨hP9, hD9⟩ := zu_sub (wc := [_, _, _, _, _, _, _, _, _, _, _, _, _, _, _, _]) hP hD [true, true, true, true, true, true, true, true, true, true, true, true, true, true, true, true] rfl rfl
        rw [hQ9]
        exact W.zret (ty := .boolean) (v := 0) hx hb hr (rfl) (fun t ht hW => ⟨⟨congrArg (fun z => Outcome.returned (some (Value.int z))) (show (0 : Int32) = pI (asb n X Y rg nd P Q rd m2 U V rh ∧ (∀ k, k < prt m2 rh → wyF2 (X 0).toInt (Y 0).toInt (P 0).toInt (Q 0).toInt m2 U V k)) from (zp_f (fun h => absurd (h.1.2.1 (by first | with_reducible assumption | assumption)) (by first | with_reducible assumption | assumption))).symm), nt, TX, TY, rt, nw, WX, WY, rw, by rw [ht]; exact hP9, hD9⟩, hS.F ht⟩) hS.2.2 dX4_isAsBefore_38
  · have c_1 : ¬ (pI (∃ i, i < prt n rg ∧ ∃ j, j < prt m2 rh ∧ eMt n X Y i m2 U V j)).toInt = (pI (∃ i, i < prt nd rd ∧ ∃ j, j < prt m2 rh ∧ eMt nd P Q i m2 U V j)).toInt := zc_ne rfl rfl c_1
    refine lv_iconst (v := 0) hx hb dX4_isAsBefore_16 rfl ?_
    obtain ⟨hP9, hD9⟩ := zu_sub (wc := [_, _, _, _, _, _, _, _, _, _, _, _, _, _, _, _]) hP hD [true, true, true, true, true, true, true, true, true, true, true, true, true, true, true, true] rfl rfl
    rw [hQ9]
    exact W.zret (ty := .boolean) (v := 0) hx hb hr (rfl) (fun t ht hW => ⟨⟨congrArg (fun z => Outcome.returned (some (Value.int z))) (show (0 : Int32) = pI (asb n X Y rg nd P Q rd m2 U V rh ∧ (∀ k, k < prt m2 rh → wyF2 (X 0).toInt (Y 0).toInt (P 0).toInt (Q 0).toInt m2 U V k)) from (zp_f (fun h => absurd (zp_ieq.mpr h.1.1) (by first | with_reducible assumption | assumption))).symm), nt, TX, TY, rt, nw, WX, WY, rw, by rw [ht]; exact hP9, hD9⟩, hS.F ht⟩) hS.2.2 dX4_isAsBefore_17
set_option maxHeartbeats 4000000 in
set_option maxRecDepth 100000 in
theorem k_Law_isAsBefore_m (l : Launch) (dC : Nat → ClassId) (dI : Nat → Nat → Nat) (cI cZ cF : ClassId) (sz : Nat) (lw : Nat) (dr : Nat) (tg : Nat) (wy : Nat) (br : Nat) (bo : Nat) (aa : Nat) (tx : Nat) (ty : Nat) (nt : Nat) (TX : Nat → Int32) (TY : Nat → Int32) (rt : Int32) (wx : Nat) (wz : Nat) (nw : Nat) (WX : Nat → Int32) (WY : Nat → Int32) (rw : Int32) (dx : Nat) (dy : Nat) (nd : Nat) (cd : Nat) (P : Nat → Int32) (Q : Nat → Int32) (rd : Int32) (r : Nat) (rx : Nat) (ry : Nat) (n : Nat) (cap : Nat) (X : Nat → Int32) (Y : Nat → Int32) (rg : Int32) (u : Nat) (ux : Nat) (uy : Nat) (m2 : Nat) (cap2 : Nat) (U : Nat → Int32) (V : Nat → Int32) (rh : Int32) (hnd : nd ≤ cd) (hcd : cd ≤ 1000) (hpd : pls nd P Q) (hn : n ≤ cap) (hcap : cap ≤ 1000) (hp : pls n X Y) (hm : m2 ≤ cap2) (hcap2 : cap2 ≤ 1000) (hq : pls m2 U V) (h1m : 1 ≤ m2) (h1n : 1 ≤ n) (h1d : 1 ≤ nd) (hn1 : ¬ n = 1) (hdn : nd = n) : zM l yX4_isAsBefore cX4_isAsBefore 4 (some .boolean) ({ frames := 3, cells := 0, slots := 0, locals := 81 } : Room) [.ref lw, .ref r, .ref u, .int (-1)] (dC, dI) (zTy cI cZ cF) [(oc3 lw (.ref dr) (.ref tg) (.ref wy) (.ref br) (.ref bo) (.ref aa)), (oc6 tg (.ref tx) (.ref ty) (nI nt) rt), (oa tx cI 3 TX), (oa ty cI 3 TY), (oc6 wy (.ref wx) (.ref wz) (nI nw) rw), (oa wx cI 2 WX), (oa wz cI 2 WY), (oc6 dr (.ref dx) (.ref dy) (nI nd) rd), (oa dx cI cd P), (oa dy cI cd Q), (oc6 r (.ref rx) (.ref ry) (nI n) rg), (oa rx cI cap X), (oa ry cI cap Y), (oc6 u (.ref ux) (.ref uy) (nI m2) rh), (oa ux cI cap2 U), (oa uy cI cap2 V)] sz (some (.int (pI (asb n X Y rg nd P Q rd m2 U V rh ∧ (¬ (∃ i, i < edg n rg ∧ ∃ k, k < m2 ∧ swR n X Y P Q (U k).toInt (V k).toInt i)))))) (fun A t => ∃ (nt1 : Nat), ∃ (TX1 : Nat → Int32), ∃ (TY1 : Nat → Int32), ∃ (rt1 : Int32), ∃ (nw1 : Nat), ∃ (WX1 : Nat → Int32), ∃ (WY1 : Nat → Int32), ∃ (rw1 : Int32), zPD (dC, dI) classes A [(oc3 lw (.ref dr) (.ref tg) (.ref wy) (.ref br) (.ref bo) (.ref aa)), (oc6 tg (.ref tx) (.ref ty) (nI nt1) rt1), (oa tx cI 3 TX1), (oa ty cI 3 TY1), (oc6 wy (.ref wx) (.ref wz) (nI nw1) rw1), (oa wx cI 2 WX1), (oa wz cI 2 WY1), (oc6 dr (.ref dx) (.ref dy) (nI nd) rd), (oa dx cI cd P), (oa dy cI cd Q), (oc6 r (.ref rx) (.ref ry) (nI n) rg), (oa rx cI cap X), (oa ry cI cap Y), (oc6 u (.ref ux) (.ref uy) (nI m2) rh), (oa ux cI cap2 U), (oa uy cI cap2 V)] t.heap) 0 0 := by
  refine zIn (own := "ScaleShop$Law") (loc := [(0, .ref lw), (1, .ref r), (2, .ref u), (3, .int (-1))]) rfl rfl rfl rfl (fun p e s m below meth c hx hb hr hts hown hlocks hml hnm9 A hA hS hP hD hK hXN Q9 hQ9 ls hl => ?_)
  refine lv_aload_n hx hb dX4_isAsBefore_0 rfl (lv_at hl 1 rfl) ?_
  refine lv_aload_n hx hb dX4_isAsBefore_1 rfl (lv_at hl 2 rfl) ?_
  obtain ⟨hPc, hDc, hFc, hI1⟩ := zi_sub (wc := [_, _, _, _, _, _]) hP hD hS hA [10, 11, 12, 13, 14, 15] (by decide +kernel) rfl
  refine zcall (st1 := [.int (pI (∃ i, i < prt n rg ∧ ∃ j, j < prt m2 rh ∧ eMt n X Y i m2 U V j))]) (va_runV (As := [.ref u]) (rest := []) ⟨hx, hb, hml, hown, hts⟩ (k_Row_touches l dC dI cI cZ cF s.heap.size r rx ry n cap X Y rg u ux uy m2 cap2 U V rh (by first | with_reducible assumption | omega) (by first | with_reducible assumption | omega) (hp) (by first | with_reducible assumption | omega) (by first | with_reducible assumption | omega) (hq)) (csV_56 hts rfl rfl ⟨Nat.le_of_ble_eq_true rfl, Nat.le_of_ble_eq_true rfl⟩) (zPV2 (q0 := 0) (ci := 6) hPc hDc hK hXN rfl rfl) rfl rfl hl.1 rfl (lv_room (Nat.le_of_ble_eq_true rfl)) dX4_isAsBefore_2 ⟨Nat.le_of_ble_eq_true rfl, Nat.le_of_ble_eq_true rfl⟩) hS hFc hFc rfl (fun t H locs ht hB hk1 hS => ?_)
  obtain ⟨hP1, hD1⟩ := hB
  rw [ht] at hP1
  replace hP := z0 hP hD hk1 hP1 hI1
  clear hk1 hPc hDc hFc hP1 hD1 ht hI1
  refine lv_aload_n hx hb dX4_isAsBefore_5 rfl (lv_at hl 0 rfl) ?_
  refine va_get (D := (dC, dI)) (ci := 3) (v := .ref dr) (C := RX4) (T := TX4) (N := 6) hx hb hts inX4 hown hK hP 0 rfl rfl 0 (Nat.le_of_ble_eq_true rfl) (hts _ mw_219) (fun _ h9 => h9) rfl dX4_isAsBefore_6 ?_
  refine lv_aload_n hx hb dX4_isAsBefore_9 rfl (lv_at hl 2 rfl) ?_
  obtain ⟨hPc, hDc, hFc, hI1⟩ := zi_sub (wc := [_, _, _, _, _, _]) hP hD hS hA [7, 8, 9, 13, 14, 15] (by decide +kernel) rfl
  refine zcall (st1 := [.int (pI (∃ i, i < prt nd rd ∧ ∃ j, j < prt m2 rh ∧ eMt nd P Q i m2 U V j)), .int (pI (∃ i, i < prt n rg ∧ ∃ j, j < prt m2 rh ∧ eMt n X Y i m2 U V j))]) (va_runV (As := [.ref u]) (rest := [.int (pI (∃ i, i < prt n rg ∧ ∃ j, j < prt m2 rh ∧ eMt n X Y i m2 U V j))]) ⟨hx, hb, hml, hown, hts⟩ (k_Row_touches l dC dI cI cZ cF H.size dr dx dy nd cd P Q rd u ux uy m2 cap2 U V rh (by first | with_reducible assumption | omega) (by first | with_reducible assumption | omega) (hpd) (by first | with_reducible assumption | omega) (by first | with_reducible assumption | omega) (hq)) (csV_56 hts rfl rfl ⟨Nat.le_of_ble_eq_true rfl, Nat.le_of_ble_eq_true rfl⟩) (zPV2 (q0 := 0) (ci := 6) hPc hDc hK hXN rfl rfl) rfl rfl hl.1 rfl (lv_room (Nat.le_of_ble_eq_true rfl)) dX4_isAsBefore_10 ⟨Nat.le_of_ble_eq_true rfl, Nat.le_of_ble_eq_true rfl⟩) hS hFc hFc rfl (fun t H locs ht hB hk1 hS => ?_)
  obtain ⟨hP1, hD1⟩ := hB
  rw [ht] at hP1
  replace hP := z0 hP hD hk1 hP1 hI1
  clear hk1 hPc hDc hFc hP1 hD1 ht hI1
  refine lv_icmp_eq (tgt := 18) hx hb dX4_isAsBefore_13 rfl (fun c_1 => ?_) (fun c_1 => ?_)
  · have c_1 : (pI (∃ i, i < prt n rg ∧ ∃ j, j < prt m2 rh ∧ eMt n X Y i m2 U V j)).toInt = (pI (∃ i, i < prt nd rd ∧ ∃ j, j < prt m2 rh ∧ eMt nd P Q i m2 U V j)).toInt := zc_eq rfl rfl c_1
    refine lv_aload_n hx hb dX4_isAsBefore_18 rfl (lv_at hl 0 rfl) ?_
    refine va_get (D := (dC, dI)) (ci := 3) (v := .ref dr) (C := RX4) (T := TX4) (N := 6) hx hb hts inX4 hown hK hP 0 rfl rfl 0 (Nat.le_of_ble_eq_true rfl) (hts _ mw_219) (fun _ h9 => h9) rfl dX4_isAsBefore_19 ?_
    refine va_get (D := (dC, dI)) (ci := 6) (v := .int rd) (C := RX7) (T := TX7) (N := 4) hx hb hts inX7 hown hK hP 7 rfl rfl 3 (Nat.le_of_ble_eq_true rfl) (hts _ mw_184) (fun _ h9 => h9) rfl dX4_isAsBefore_22 ?_
    refine lv_if_eq (tgt := 39) hx hb dX4_isAsBefore_25 rfl (fun c_2 => ?_) (fun c_2 => ?_)
    · have c_2 : rd.toInt = 0 := zc_eq rfl rfl c_2
      refine lv_aload_n hx hb dX4_isAsBefore_39 rfl (lv_at hl 2 rfl) ?_
      refine va_get (D := (dC, dI)) (ci := 6) (v := .int rh) (C := RX7) (T := TX7) (N := 4) hx hb hts inX7 hown hK hP 13 rfl rfl 3 (Nat.le_of_ble_eq_true rfl) (hts _ mw_184) (fun _ h9 => h9) rfl dX4_isAsBefore_40 ?_
      refine lv_if_eq (tgt := 64) hx hb dX4_isAsBefore_43 rfl (fun c_3 => ?_) (fun c_3 => ?_)
      · have c_3 : rh.toInt = 0 := zc_eq rfl rfl c_3
        refine lv_aload_n hx hb dX4_isAsBefore_64 rfl (lv_at hl 1 rfl) ?_
        refine va_get (D := (dC, dI)) (ci := 6) (v := .int (nI n)) (C := RX7) (T := TX7) (N := 4) hx hb hts inX7 hown hK hP 10 rfl rfl 2 (Nat.le_of_ble_eq_true rfl) (hts _ mw_176) (fun _ h9 => h9) rfl dX4_isAsBefore_65 ?_
        refine lv_iconst (v := 1) hx hb dX4_isAsBefore_68 rfl ?_
        have b9_5 : zlt (n) := show n < 2147483648 by omega
        refine lv_icmp_ne (tgt := 79) hx hb dX4_isAsBefore_69 rfl (fun c_4 => ?_) (fun c_4 => ?_)
        · have c_4 : ¬ ((n : Nat) : Int) = 1 := zc_ne (nI_toInt b9_5) rfl c_4
          refine lv_iload_n hx hb dX4_isAsBefore_79 rfl (lv_at hl 3 rfl) ?_
          refine lv_bipush (v := (-2)) hx hb dX4_isAsBefore_80 rfl ?_
          refine lv_icmp_ne (tgt := 87) hx hb dX4_isAsBefore_82 rfl (fun c_6 => ?_) (fun c_6 => ?_)
          · refine lv_iload_n hx hb dX4_isAsBefore_87 rfl (lv_at hl 3 rfl) ?_
            refine lv_iconst (v := (-1)) hx hb dX4_isAsBefore_88 rfl ?_
            refine lv_icmp_ne (tgt := 109) hx hb dX4_isAsBefore_89 rfl (fun c_7 => ?_) (fun c_7 => ?_)
            · exact absurd (by decide) c_7
            · refine lv_aload_n hx hb dX4_isAsBefore_92 rfl (lv_at hl 0 rfl) ?_
              refine lv_aload_n hx hb dX4_isAsBefore_93 rfl (lv_at hl 1 rfl) ?_
              refine lv_aload_n hx hb dX4_isAsBefore_94 rfl (lv_at hl 2 rfl) ?_
              obtain ⟨hPc, hDc, hFc⟩ := zo_sub (wc := [_, _, _, _, _, _, _, _, _, _, _, _, _]) hP hD hS hA [0, 1, 2, 3, 7, 8, 9, 10, 11, 12, 13, 14, 15] (by decide +kernel) rfl
              refine zcall (st1 := [.int (pI (∃ i, i < edg n rg ∧ ∃ k, k < m2 ∧ swR n X Y P Q (U k).toInt (V k).toInt i))]) (va_runV (As := [.ref r, .ref u]) (rest := []) ⟨hx, hb, hml, hown, hts⟩ (k_Law_isSweptByMove l dC dI cI cZ cF H.size lw dr tg wy br bo aa tx ty nt TX TY rt dx dy nd cd P Q rd r rx ry n cap X Y rg u ux uy m2 cap2 U V rh (by first | with_reducible assumption | omega) (by first | with_reducible assumption | omega) (by first | with_reducible assumption | assumption) (by first | with_reducible assumption | omega) (by first | with_reducible assumption | omega) (by first | with_reducible assumption | assumption) (by first | with_reducible assumption | omega) (by first | with_reducible assumption | omega) (by first | with_reducible assumption | assumption) (by first | with_reducible assumption | omega)) (csV_59 hts rfl rfl ⟨Nat.le_of_ble_eq_true rfl, Nat.le_of_ble_eq_true rfl⟩) (zPV2 (q0 := 0) (ci := 3) hPc hDc hK hXN rfl rfl) rfl rfl hl.1 rfl (lv_room (Nat.le_of_ble_eq_true rfl)) dX4_isAsBefore_95 ⟨Nat.le_of_ble_eq_true rfl, Nat.le_of_ble_eq_true rfl⟩) hS hFc hFc rfl (fun t H locs ht hB hk1 hS => ?_)
              obtain ⟨q_8, q_9, q_10, q_11, hP1, hD1⟩ := hB
              rw [ht] at hP1
              obtain ⟨hP, hD⟩ := zn (W2 := [_, (oc6 tg (.ref tx) (.ref ty) (nI q_8) q_11), (oa tx cI 3 q_9), (oa ty cI 3 q_10), _, _, _, _, _, _, _, _, _, _, _, _]) hP hD hk1 hFc hP1 hD1 zl_19 [false, false, false, false, true, true, true] zl_20 zl_19 (by decide +kernel) rfl rfl rfl rfl rfl
              clear hk1 hPc hDc hFc hP1 hD1 ht
              refine lv_if_ne (tgt := 105) hx hb dX4_isAsBefore_98 rfl (fun c_12 => ?_) (fun c_12 => ?_)
              · have c_12 : ∃ i, i < edg n rg ∧ ∃ k, k < m2 ∧ swR n X Y P Q (U k).toInt (V k).toInt i := zp_1 c_12
                refine lv_iconst (v := 0) hx hb dX4_isAsBefore_105 rfl ?_
                refine lv_goto (tgt := 124) hx hb dX4_isAsBefore_106 rfl ?_
                obtain ⟨hP9, hD9⟩ := zu_sub (wc := [_, _, _, _, _, _, _, _, _, _, _, _, _, _, _, _]) hP hD [true, true, true, true, true, true, true, true, true, true, true, true, true, true, true, true] rfl rfl
                rw [hQ9]
                exact W.zret (ty := .boolean) (v := 0) hx hb hr (rfl) (fun t ht hW => ⟨⟨congrArg (fun z => Outcome.returned (some (Value.int z))) (show (0 : Int32) = pI (asb n X Y rg nd P Q rd m2 U V rh ∧ (¬ (∃ i, i < edg n rg ∧ ∃ k, k < m2 ∧ swR n X Y P Q (U k).toInt (V k).toInt i))) from (zp_f (by first | exact ⟨⟨zp_ieq.mp (by first | with_reducible assumption | assumption), fun h9 => by first | with_reducible assumption | assumption | exact absurd (by first | with_reducible assumption | assumption) h9, fun h9 => by first | exact zp_ieq.mp (by first | with_reducible assumption | assumption) | exact absurd (by first | with_reducible assumption | assumption) h9⟩, by assumption⟩ | exact fun h => absurd (by first | with_reducible assumption | assumption) h.2)).symm), q_8, q_9, q_10, q_11, nw, WX, WY, rw, by rw [ht]; exact hP9, hD9⟩, hS.F ht⟩) hS.2.2 dX4_isAsBefore_124
              · have c_12 : ¬ (∃ i, i < edg n rg ∧ ∃ k, k < m2 ∧ swR n X Y P Q (U k).toInt (V k).toInt i) := zp_0 c_12
                refine lv_iconst (v := 1) hx hb dX4_isAsBefore_101 rfl ?_
                refine lv_goto (tgt := 124) hx hb dX4_isAsBefore_102 rfl ?_
                obtain ⟨hP9, hD9⟩ := zu_sub (wc := [_, _, _, _, _, _, _, _, _, _, _, _, _, _, _, _]) hP hD [true, true, true, true, true, true, true, true, true, true, true, true, true, true, true, true] rfl rfl
                rw [hQ9]
                exact W.zret (ty := .boolean) (v := 1) hx hb hr (rfl) (fun t ht hW => ⟨⟨congrArg (fun z => Outcome.returned (some (Value.int z))) (show (1 : Int32) = pI (asb n X Y rg nd P Q rd m2 U V rh ∧ (¬ (∃ i, i < edg n rg ∧ ∃ k, k < m2 ∧ swR n X Y P Q (U k).toInt (V k).toInt i))) from (zp_t (by first | exact ⟨⟨zp_ieq.mp (by first | with_reducible assumption | assumption), fun h9 => by first | with_reducible assumption | assumption | exact absurd (by first | with_reducible assumption | assumption) h9, fun h9 => by first | exact zp_ieq.mp (by first | with_reducible assumption | assumption) | exact absurd (by first | with_reducible assumption | assumption) h9⟩, by assumption⟩ | exact fun h => absurd (by first | with_reducible assumption | assumption) h.2)).symm), q_8, q_9, q_10, q_11, nw, WX, WY, rw, by rw [ht]; exact hP9, hD9⟩, hS.F ht⟩) hS.2.2 dX4_isAsBefore_124
          · exact absurd c_6 (by decide)
        · have c_4 : ((n : Nat) : Int) = 1 := zc_eq (nI_toInt b9_5) rfl c_4
          exfalso; omega
      · have c_3 : ¬ rh.toInt = 0 := zc_ne rfl rfl c_3
        refine lv_aload_n hx hb dX4_isAsBefore_46 rfl (lv_at hl 2 rfl) ?_
        refine lv_aload_n hx hb dX4_isAsBefore_47 rfl (lv_at hl 1 rfl) ?_
        obtain ⟨hPc, hDc, hFc, hI1⟩ := zi_sub (wc := [_, _, _, _, _, _]) hP hD hS hA [13, 14, 15, 10, 11, 12] (by decide +kernel) rfl
        refine zcall (st1 := [.int (pI (inF 5 m2 U V (X 0).toInt (Y 0).toInt))]) (va_runS (As := [.ref u, .ref r]) (rest := []) ⟨hx, hb, hml, hown, hts⟩ (k_Law_isIn l dC dI cI cZ cF H.size u ux uy m2 cap2 U V rh r rx ry n cap X Y rg (by first | with_reducible assumption | omega) (by first | with_reducible assumption | omega) (hq) (by first | with_reducible assumption | omega) (by first | with_reducible assumption | omega) (hp) (by first | with_reducible assumption | omega)) (csS_61 hts rfl rfl ⟨Nat.le_of_ble_eq_true rfl, Nat.le_of_ble_eq_true rfl⟩) (zPS2 hPc hDc hK hXN) rfl rfl hl.1 rfl (lv_room (Nat.le_of_ble_eq_true rfl)) dX4_isAsBefore_48 ⟨Nat.le_of_ble_eq_true rfl, Nat.le_of_ble_eq_true rfl⟩) hS hFc hFc rfl (fun t H locs ht hB hk1 hS => ?_)
        obtain ⟨hP1, hD1⟩ := hB
        rw [ht] at hP1
        replace hP := z0 hP hD hk1 hP1 hI1
        clear hk1 hPc hDc hFc hP1 hD1 ht hI1
        refine lv_aload_n hx hb dX4_isAsBefore_51 rfl (lv_at hl 2 rfl) ?_
        refine lv_aload_n hx hb dX4_isAsBefore_52 rfl (lv_at hl 0 rfl) ?_
        refine va_get (D := (dC, dI)) (ci := 3) (v := .ref dr) (C := RX4) (T := TX4) (N := 6) hx hb hts inX4 hown hK hP 0 rfl rfl 0 (Nat.le_of_ble_eq_true rfl) (hts _ mw_219) (fun _ h9 => h9) rfl dX4_isAsBefore_53 ?_
        obtain ⟨hPc, hDc, hFc, hI1⟩ := zi_sub (wc := [_, _, _, _, _, _]) hP hD hS hA [13, 14, 15, 7, 8, 9] (by decide +kernel) rfl
        refine zcall (st1 := [.int (pI (inF 5 m2 U V (P 0).toInt (Q 0).toInt)), .int (pI (inF 5 m2 U V (X 0).toInt (Y 0).toInt))]) (va_runS (As := [.ref u, .ref dr]) (rest := [.int (pI (inF 5 m2 U V (X 0).toInt (Y 0).toInt))]) ⟨hx, hb, hml, hown, hts⟩ (k_Law_isIn l dC dI cI cZ cF H.size u ux uy m2 cap2 U V rh dr dx dy nd cd P Q rd (by first | with_reducible assumption | omega) (by first | with_reducible assumption | omega) (hq) (by first | with_reducible assumption | omega) (by first | with_reducible assumption | omega) (hpd) (by first | with_reducible assumption | omega)) (csS_61 hts rfl rfl ⟨Nat.le_of_ble_eq_true rfl, Nat.le_of_ble_eq_true rfl⟩) (zPS2 hPc hDc hK hXN) rfl rfl hl.1 rfl (lv_room (Nat.le_of_ble_eq_true rfl)) dX4_isAsBefore_56 ⟨Nat.le_of_ble_eq_true rfl, Nat.le_of_ble_eq_true rfl⟩) hS hFc hFc rfl (fun t H locs ht hB hk1 hS => ?_)
        obtain ⟨hP1, hD1⟩ := hB
        rw [ht] at hP1
        replace hP := z0 hP hD hk1 hP1 hI1
        clear hk1 hPc hDc hFc hP1 hD1 ht hI1
        refine lv_icmp_eq (tgt := 64) hx hb dX4_isAsBefore_59 rfl (fun c_13 => ?_) (fun c_13 => ?_)
        · have c_13 : (pI (inF 5 m2 U V (X 0).toInt (Y 0).toInt)).toInt = (pI (inF 5 m2 U V (P 0).toInt (Q 0).toInt)).toInt := zc_eq rfl rfl c_13
          refine lv_aload_n hx hb dX4_isAsBefore_64 rfl (lv_at hl 1 rfl) ?_
          refine va_get (D := (dC, dI)) (ci := 6) (v := .int (nI n)) (C := RX7) (T := TX7) (N := 4) hx hb hts inX7 hown hK hP 10 rfl rfl 2 (Nat.le_of_ble_eq_true rfl) (hts _ mw_176) (fun _ h9 => h9) rfl dX4_isAsBefore_65 ?_
          refine lv_iconst (v := 1) hx hb dX4_isAsBefore_68 rfl ?_
          have b9_15 : zlt (n) := show n < 2147483648 by omega
          refine lv_icmp_ne (tgt := 79) hx hb dX4_isAsBefore_69 rfl (fun c_14 => ?_) (fun c_14 => ?_)
          · have c_14 : ¬ ((n : Nat) : Int) = 1 := zc_ne (nI_toInt b9_15) rfl c_14
            refine lv_iload_n hx hb dX4_isAsBefore_79 rfl (lv_at hl 3 rfl) ?_
            refine lv_bipush (v := (-2)) hx hb dX4_isAsBefore_80 rfl ?_
            refine lv_icmp_ne (tgt := 87) hx hb dX4_isAsBefore_82 rfl (fun c_16 => ?_) (fun c_16 => ?_)
            · refine lv_iload_n hx hb dX4_isAsBefore_87 rfl (lv_at hl 3 rfl) ?_
              refine lv_iconst (v := (-1)) hx hb dX4_isAsBefore_88 rfl ?_
              refine lv_icmp_ne (tgt := 109) hx hb dX4_isAsBefore_89 rfl (fun c_17 => ?_) (fun c_17 => ?_)
              · exact absurd (by decide) c_17
              · refine lv_aload_n hx hb dX4_isAsBefore_92 rfl (lv_at hl 0 rfl) ?_
                refine lv_aload_n hx hb dX4_isAsBefore_93 rfl (lv_at hl 1 rfl) ?_
                refine lv_aload_n hx hb dX4_isAsBefore_94 rfl (lv_at hl 2 rfl) ?_
                obtain ⟨hPc, hDc, hFc⟩ := zo_sub (wc := [_, _, _, _, _, _, _, _, _, _, _, _, _]) hP hD hS hA [0, 1, 2, 3, 7, 8, 9, 10, 11, 12, 13, 14, 15] (by decide +kernel) rfl
                refine zcall (st1 := [.int (pI (∃ i, i < edg n rg ∧ ∃ k, k < m2 ∧ swR n X Y P Q (U k).toInt (V k).toInt i))]) (va_runV (As := [.ref r, .ref u]) (rest := []) ⟨hx, hb, hml, hown, hts⟩ (k_Law_isSweptByMove l dC dI cI cZ cF H.size lw dr tg wy br bo aa tx ty nt TX TY rt dx dy nd cd P Q rd r rx ry n cap X Y rg u ux uy m2 cap2 U V rh (by first | with_reducible assumption | omega) (by first | with_reducible assumption | omega) (by first | with_reducible assumption | assumption) (by first | with_reducible assumption | omega) (by first | with_reducible assumption | omega) (by first | with_reducible assumption | assumption) (by first | with_reducible assumption | omega) (by first | with_reducible assumption | omega) (by first | with_reducible assumption | assumption) (by first | with_reducible assumption | omega)) (csV_59 hts rfl rfl ⟨Nat.le_of_ble_eq_true rfl, Nat.le_of_ble_eq_true rfl⟩) (zPV2 (q0 := 0) (ci := 3) hPc hDc hK hXN rfl rfl) rfl rfl hl.1 rfl (lv_room (Nat.le_of_ble_eq_true rfl)) dX4_isAsBefore_95 ⟨Nat.le_of_ble_eq_true rfl, Nat.le_of_ble_eq_true rfl⟩) hS hFc hFc rfl (fun t H locs ht hB hk1 hS => ?_)
                obtain ⟨q_18, q_19, q_20, q_21, hP1, hD1⟩ := hB
                rw [ht] at hP1
                obtain ⟨hP, hD⟩ := zn (W2 := [_, (oc6 tg (.ref tx) (.ref ty) (nI q_18) q_21), (oa tx cI 3 q_19), (oa ty cI 3 q_20), _, _, _, _, _, _, _, _, _, _, _, _]) hP hD hk1 hFc hP1 hD1 zl_19 [false, false, false, false, true, true, true] zl_20 zl_19 (by decide +kernel) rfl rfl rfl rfl rfl
                clear hk1 hPc hDc hFc hP1 hD1 ht
                refine lv_if_ne (tgt := 105) hx hb dX4_isAsBefore_98 rfl (fun c_22 => ?_) (fun c_22 => ?_)
                · have c_22 : ∃ i, i < edg n rg ∧ ∃ k, k < m2 ∧ swR n X Y P Q (U k).toInt (V k).toInt i := zp_1 c_22
                  refine lv_iconst (v := 0) hx hb dX4_isAsBefore_105 rfl ?_
                  refine lv_goto (tgt := 124) hx hb dX4_isAsBefore_106 rfl ?_
                  obtain ⟨hP9, hD9⟩ := zu_sub (wc := [_, _, _, _, _, _, _, _, _, _, _, _, _, _, _, _]) hP hD [true, true, true, true, true, true, true, true, true, true, true, true, true, true, true, true] rfl rfl
                  rw [hQ9]
                  exact W.zret (ty := .boolean) (v := 0) hx hb hr (rfl) (fun t ht hW => ⟨⟨congrArg (fun z => Outcome.returned (some (Value.int z))) (show (0 : Int32) = pI (asb n X Y rg nd P Q rd m2 U V rh ∧ (¬ (∃ i, i < edg n rg ∧ ∃ k, k < m2 ∧ swR n X Y P Q (U k).toInt (V k).toInt i))) from (zp_f (by first | exact ⟨⟨zp_ieq.mp (by first | with_reducible assumption | assumption), fun h9 => by first | with_reducible assumption | assumption | exact absurd (by first | with_reducible assumption | assumption) h9, fun h9 => by first | exact zp_ieq.mp (by first | with_reducible assumption | assumption) | exact absurd (by first | with_reducible assumption | assumption) h9⟩, by assumption⟩ | exact fun h => absurd (by first | with_reducible assumption | assumption) h.2)).symm), q_18, q_19, q_20, q_21, nw, WX, WY, rw, by rw [ht]; exact hP9, hD9⟩, hS.F ht⟩) hS.2.2 dX4_isAsBefore_124
                · have c_22 : ¬ (∃ i, i < edg n rg ∧ ∃ k, k < m2 ∧ swR n X Y P Q (U k).toInt (V k).toInt i) := zp_0 c_22
                  refine lv_iconst (v := 1) hx hb dX4_isAsBefore_101 rfl ?_
                  refine lv_goto (tgt := 124) hx hb dX4_isAsBefore_102 rfl ?_
                  obtain ⟨hP9, hD9⟩ := zu_sub (wc := [_, _, _, _, _, _, _, _, _, _, _, _, _, _, _, _]) hP hD [true, true, true, true, true, true, true, true, true, true, true, true, true, true, true, true] rfl rfl
                  rw [hQ9]
                  exact W.zret (ty := .boolean) (v := 1) hx hb hr (rfl) (fun t ht hW => ⟨⟨congrArg (fun z => Outcome.returned (some (Value.int z))) (show (1 : Int32) = pI (asb n X Y rg nd P Q rd m2 U V rh ∧ (¬ (∃ i, i < edg n rg ∧ ∃ k, k < m2 ∧ swR n X Y P Q (U k).toInt (V k).toInt i))) from (zp_t (by first | exact ⟨⟨zp_ieq.mp (by first | with_reducible assumption | assumption), fun h9 => by first | with_reducible assumption | assumption | exact absurd (by first | with_reducible assumption | assumption) h9, fun h9 => by first | exact zp_ieq.mp (by first | with_reducible assumption | assumption) | exact absurd (by first | with_reducible assumption | assumption) h9⟩, by assumption⟩ | exact fun h => absurd (by first | with_reducible assumption | assumption) h.2)).symm), q_18, q_19, q_20, q_21, nw, WX, WY, rw, by rw [ht]; exact hP9, hD9⟩, hS.F ht⟩) hS.2.2 dX4_isAsBefore_124
            · exact absurd c_16 (by decide)
          · have c_14 : ((n : Nat) : Int) = 1 := zc_eq (nI_toInt b9_15) rfl c_14
            exfalso; omega
        · have c_13 : ¬ (pI (inF 5 m2 U V (X 0).toInt (Y 0).toInt)).toInt = (pI (inF 5 m2 U V (P 0).toInt (Q 0).toInt)).toInt := zc_ne rfl rfl c_13
          refine lv_iconst (v := 0) hx hb dX4_isAsBefore_62 rfl ?_
          obtain ⟨hP9, hD9⟩ := zu_sub (wc := [_, _, _, _, _, _, _, _, _, _, _, _, _, _, _, _]) hP hD [true, true, true, true, true, true, true, true, true, true, true, true, true, true, true, true] rfl rfl
          rw [hQ9]
          exact W.zret (ty := .boolean) (v := 0) hx hb hr (rfl) (fun t ht hW => ⟨⟨congrArg (fun z => Outcome.returned (some (Value.int z))) (show (0 : Int32) = pI (asb n X Y rg nd P Q rd m2 U V rh ∧ (¬ (∃ i, i < edg n rg ∧ ∃ k, k < m2 ∧ swR n X Y P Q (U k).toInt (V k).toInt i))) from (zp_f (fun h => absurd (zp_ieq.mpr (h.1.2.2 (by first | with_reducible assumption | assumption))) (by first | with_reducible assumption | assumption))).symm), nt, TX, TY, rt, nw, WX, WY, rw, by rw [ht]; exact hP9, hD9⟩, hS.F ht⟩) hS.2.2 dX4_isAsBefore_63
    · have c_2 : ¬ rd.toInt = 0 := zc_ne rfl rfl c_2
      refine lv_aload_n hx hb dX4_isAsBefore_28 rfl (lv_at hl 0 rfl) ?_
      refine lv_aload_n hx hb dX4_isAsBefore_29 rfl (lv_at hl 1 rfl) ?_
      refine lv_aload_n hx hb dX4_isAsBefore_30 rfl (lv_at hl 2 rfl) ?_
      obtain ⟨hPc, hDc, hFc, hI1⟩ := zi_sub (wc := [_, _, _, _, _, _, _, _, _, _]) hP hD hS hA [0, 7, 8, 9, 10, 11, 12, 13, 14, 15] (by decide +kernel) rfl
      refine zcall (st1 := [.int (pI (∀ k, k < m2 → (inF 5 n X Y (U k).toInt (V k).toInt ↔ inF 5 nd P Q (U k).toInt (V k).toInt)))]) (va_runV (As := [.ref r, .ref u]) (rest := []) ⟨hx, hb, hml, hown, hts⟩ (k_Law_holdsAsBefore l dC dI cI cZ cF H.size lw dr tg wy br bo aa dx dy nd cd P Q rd r rx ry n cap X Y rg u ux uy m2 cap2 U V rh (by first | with_reducible assumption | omega) (by first | with_reducible assumption | omega) (by first | with_reducible assumption | assumption) (by first | with_reducible assumption | omega) (by first | with_reducible assumption | omega) (by first | with_reducible assumption | assumption) (by first | with_reducible assumption | omega) (by first | with_reducible assumption | omega) (by first | with_reducible assumption | assumption)) (csV_58 hts rfl rfl ⟨Nat.le_of_ble_eq_true rfl, Nat.le_of_ble_eq_true rfl⟩) (zPV2 (q0 := 0) (ci := 3) hPc hDc hK hXN rfl rfl) rfl rfl hl.1 rfl (lv_room (Nat.le_of_ble_eq_true rfl)) dX4_isAsBefore_31 ⟨Nat.le_of_ble_eq_true rfl, Nat.le_of_ble_eq_true rfl⟩) hS hFc hFc rfl (fun t H locs ht hB hk1 hS => ?_)
      obtain ⟨hP1, hD1⟩ := hB
      rw [ht] at hP1
      replace hP := z0 hP hD hk1 hP1 hI1
      clear hk1 hPc hDc hFc hP1 hD1 ht hI1
      refine lv_if_ne (tgt := 39) hx hb dX4_isAsBefore_34 rfl (fun c_23 => ?_) (fun c_23 => ?_)
      · have c_23 : ∀ k, k < m2 → (inF 5 n X Y (U k).toInt (V k).toInt ↔ inF 5 nd P Q (U k).toInt (V k).toInt) := zp_1 c_23
        refine lv_aload_n hx hb dX4_isAsBefore_39 rfl (lv_at hl 2 rfl) ?_
        refine va_get (D := (dC, dI)) (ci := 6) (v := .int rh) (C := RX7) (T := TX7) (N := 4) hx hb hts inX7 hown hK hP 13 rfl rfl 3 (Nat.le_of_ble_eq_true rfl) (hts _ mw_184) (fun _ h9 => h9) rfl dX4_isAsBefore_40 ?_
        refine lv_if_eq (tgt := 64) hx hb dX4_isAsBefore_43 rfl (fun c_24 => ?_) (fun c_24 => ?_)
        · have c_24 : rh.toInt = 0 := zc_eq rfl rfl c_24
          refine lv_aload_n hx hb dX4_isAsBefore_64 rfl (lv_at hl 1 rfl) ?_
          refine va_get (D := (dC, dI)) (ci := 6) (v := .int (nI n)) (C := RX7) (T := TX7) (N := 4) hx hb hts inX7 hown hK hP 10 rfl rfl 2 (Nat.le_of_ble_eq_true rfl) (hts _ mw_176) (fun _ h9 => h9) rfl dX4_isAsBefore_65 ?_
          refine lv_iconst (v := 1) hx hb dX4_isAsBefore_68 rfl ?_
          have b9_26 : zlt (n) := show n < 2147483648 by omega
          refine lv_icmp_ne (tgt := 79) hx hb dX4_isAsBefore_69 rfl (fun c_25 => ?_) (fun c_25 => ?_)
          · have c_25 : ¬ ((n : Nat) : Int) = 1 := zc_ne (nI_toInt b9_26) rfl c_25
            refine lv_iload_n hx hb dX4_isAsBefore_79 rfl (lv_at hl 3 rfl) ?_
            refine lv_bipush (v := (-2)) hx hb dX4_isAsBefore_80 rfl ?_
            refine lv_icmp_ne (tgt := 87) hx hb dX4_isAsBefore_82 rfl (fun c_27 => ?_) (fun c_27 => ?_)
            · refine lv_iload_n hx hb dX4_isAsBefore_87 rfl (lv_at hl 3 rfl) ?_
              refine lv_iconst (v := (-1)) hx hb dX4_isAsBefore_88 rfl ?_
              refine lv_icmp_ne (tgt := 109) hx hb dX4_isAsBefore_89 rfl (fun c_28 => ?_) (fun c_28 => ?_)
              · exact absurd (by decide) c_28
              · refine lv_aload_n hx hb dX4_isAsBefore_92 rfl (lv_at hl 0 rfl) ?_
                refine lv_aload_n hx hb dX4_isAsBefore_93 rfl (lv_at hl 1 rfl) ?_
                refine lv_aload_n hx hb dX4_isAsBefore_94 rfl (lv_at hl 2 rfl) ?_
                obtain ⟨hPc, hDc, hFc⟩ := zo_sub (wc := [_, _, _, _, _, _, _, _, _, _, _, _, _]) hP hD hS hA [0, 1, 2, 3, 7, 8, 9, 10, 11, 12, 13, 14, 15] (by decide +kernel) rfl
                refine zcall (st1 := [.int (pI (∃ i, i < edg n rg ∧ ∃ k, k < m2 ∧ swR n X Y P Q (U k).toInt (V k).toInt i))]) (va_runV (As := [.ref r, .ref u]) (rest := []) ⟨hx, hb, hml, hown, hts⟩ (k_Law_isSweptByMove l dC dI cI cZ cF H.size lw dr tg wy br bo aa tx ty nt TX TY rt dx dy nd cd P Q rd r rx ry n cap X Y rg u ux uy m2 cap2 U V rh (by first | with_reducible assumption | omega) (by first | with_reducible assumption | omega) (by first | with_reducible assumption | assumption) (by first | with_reducible assumption | omega) (by first | with_reducible assumption | omega) (by first | with_reducible assumption | assumption) (by first | with_reducible assumption | omega) (by first | with_reducible assumption | omega) (by first | with_reducible assumption | assumption) (by first | with_reducible assumption | omega)) (csV_59 hts rfl rfl ⟨Nat.le_of_ble_eq_true rfl, Nat.le_of_ble_eq_true rfl⟩) (zPV2 (q0 := 0) (ci := 3) hPc hDc hK hXN rfl rfl) rfl rfl hl.1 rfl (lv_room (Nat.le_of_ble_eq_true rfl)) dX4_isAsBefore_95 ⟨Nat.le_of_ble_eq_true rfl, Nat.le_of_ble_eq_true rfl⟩) hS hFc hFc rfl (fun t H locs ht hB hk1 hS => ?_)
                obtain ⟨q_29, q_30, q_31, q_32, hP1, hD1⟩ := hB
                rw [ht] at hP1
                obtain ⟨hP, hD⟩ := zn (W2 := [_, (oc6 tg (.ref tx) (.ref ty) (nI q_29) q_32), (oa tx cI 3 q_30), (oa ty cI 3 q_31), _, _, _, _, _, _, _, _, _, _, _, _]) hP hD hk1 hFc hP1 hD1 zl_19 [false, false, false, false, true, true, true] zl_20 zl_19 (by decide +kernel) rfl rfl rfl rfl rfl
                clear hk1 hPc hDc hFc hP1 hD1 ht
                refine lv_if_ne (tgt := 105) hx hb dX4_isAsBefore_98 rfl (fun c_33 => ?_) (fun c_33 => ?_)
                · have c_33 : ∃ i, i < edg n rg ∧ ∃ k, k < m2 ∧ swR n X Y P Q (U k).toInt (V k).toInt i := zp_1 c_33
                  refine lv_iconst (v := 0) hx hb dX4_isAsBefore_105 rfl ?_
                  refine lv_goto (tgt := 124) hx hb dX4_isAsBefore_106 rfl ?_
                  obtain ⟨hP9, hD9⟩ := zu_sub (wc := [_, _, _, _, _, _, _, _, _, _, _, _, _, _, _, _]) hP hD [true, true, true, true, true, true, true, true, true, true, true, true, true, true, true, true] rfl rfl
                  rw [hQ9]
                  exact W.zret (ty := .boolean) (v := 0) hx hb hr (rfl) (fun t ht hW => ⟨⟨congrArg (fun z => Outcome.returned (some (Value.int z))) (show (0 : Int32) = pI (asb n X Y rg nd P Q rd m2 U V rh ∧ (¬ (∃ i, i < edg n rg ∧ ∃ k, k < m2 ∧ swR n X Y P Q (U k).toInt (V k).toInt i))) from (zp_f (by first | exact ⟨⟨zp_ieq.mp (by first | with_reducible assumption | assumption), fun h9 => by first | with_reducible assumption | assumption | exact absurd (by first | with_reducible assumption | assumption) h9, fun h9 => by first | exact zp_ieq.mp (by first | with_reducible assumption | assumption) | exact absurd (by first | with_reducible assumption | assumption) h9⟩, by assumption⟩ | exact fun h => absurd (by first | with_reducible assumption | assumption) h.2)).symm), q_29, q_30, q_31, q_32, nw, WX, WY, rw, by rw [ht]; exact hP9, hD9⟩, hS.F ht⟩) hS.2.2 dX4_isAsBefore_124
                · have c_33 : ¬ (∃ i, i < edg n rg ∧ ∃ k, k < m2 ∧ swR n X Y P Q (U k).toInt (V k).toInt i) := zp_0 c_33
                  refine lv_iconst (v := 1) hx hb dX4_isAsBefore_101 rfl ?_
                  refine lv_goto (tgt := 124) hx hb dX4_isAsBefore_102 rfl ?_
                  obtain ⟨hP9, hD9⟩ := zu_sub (wc := [_, _, _, _, _, _, _, _, _, _, _, _, _, _, _, _]) hP hD [true, true, true, true, true, true, true, true, true, true, true, true, true, true, true, true] rfl rfl
                  rw [hQ9]
                  exact W.zret (ty := .boolean) (v := 1) hx hb hr (rfl) (fun t ht hW => ⟨⟨congrArg (fun z => Outcome.returned (some (Value.int z))) (show (1 : Int32) = pI (asb n X Y rg nd P Q rd m2 U V rh ∧ (¬ (∃ i, i < edg n rg ∧ ∃ k, k < m2 ∧ swR n X Y P Q (U k).toInt (V k).toInt i))) from (zp_t (by first | exact ⟨⟨zp_ieq.mp (by first | with_reducible assumption | assumption), fun h9 => by first | with_reducible assumption | assumption | exact absurd (by first | with_reducible assumption | assumption) h9, fun h9 => by first | exact zp_ieq.mp (by first | with_reducible assumption | assumption) | exact absurd (by first | with_reducible assumption | assumption) h9⟩, by assumption⟩ | exact fun h => absurd (by first | with_reducible assumption | assumption) h.2)).symm), q_29, q_30, q_31, q_32, nw, WX, WY, rw, by rw [ht]; exact hP9, hD9⟩, hS.F ht⟩) hS.2.2 dX4_isAsBefore_124
            · exact absurd c_27 (by decide)
          · have c_25 : ((n : Nat) : Int) = 1 := zc_eq (nI_toInt b9_26) rfl c_25
            exfalso; omega
        · have c_24 : ¬ rh.toInt = 0 := zc_ne rfl rfl c_24
          refine lv_aload_n hx hb dX4_isAsBefore_46 rfl (lv_at hl 2 rfl) ?_
          refine lv_aload_n hx hb dX4_isAsBefore_47 rfl (lv_at hl 1 rfl) ?_
          obtain ⟨hPc, hDc, hFc, hI1⟩ := zi_sub (wc := [_, _, _, _, _, _]) hP hD hS hA [13, 14, 15, 10, 11, 12] (by decide +kernel) rfl
          refine zcall (st1 := [.int (pI (inF 5 m2 U V (X 0).toInt (Y 0).toInt))]) (va_runS (As := [.ref u, .ref r]) (rest := []) ⟨hx, hb, hml, hown, hts⟩ (k_Law_isIn l dC dI cI cZ cF H.size u ux uy m2 cap2 U V rh r rx ry n cap X Y rg (by first | with_reducible assumption | omega) (by first | with_reducible assumption | omega) (hq) (by first | with_reducible assumption | omega) (by first | with_reducible assumption | omega) (hp) (by first | with_reducible assumption | omega)) (csS_61 hts rfl rfl ⟨Nat.le_of_ble_eq_true rfl, Nat.le_of_ble_eq_true rfl⟩) (zPS2 hPc hDc hK hXN) rfl rfl hl.1 rfl (lv_room (Nat.le_of_ble_eq_true rfl)) dX4_isAsBefore_48 ⟨Nat.le_of_ble_eq_true rfl, Nat.le_of_ble_eq_true rfl⟩) hS hFc hFc rfl (fun t H locs ht hB hk1 hS => ?_)
          obtain ⟨hP1, hD1⟩ := hB
          rw [ht] at hP1
          replace hP := z0 hP hD hk1 hP1 hI1
          clear hk1 hPc hDc hFc hP1 hD1 ht hI1
          refine lv_aload_n hx hb dX4_isAsBefore_51 rfl (lv_at hl 2 rfl) ?_
          refine lv_aload_n hx hb dX4_isAsBefore_52 rfl (lv_at hl 0 rfl) ?_
          refine va_get (D := (dC, dI)) (ci := 3) (v := .ref dr) (C := RX4) (T := TX4) (N := 6) hx hb hts inX4 hown hK hP 0 rfl rfl 0 (Nat.le_of_ble_eq_true rfl) (hts _ mw_219) (fun _ h9 => h9) rfl dX4_isAsBefore_53 ?_
          obtain ⟨hPc, hDc, hFc, hI1⟩ := zi_sub (wc := [_, _, _, _, _, _]) hP hD hS hA [13, 14, 15, 7, 8, 9] (by decide +kernel) rfl
          refine zcall (st1 := [.int (pI (inF 5 m2 U V (P 0).toInt (Q 0).toInt)), .int (pI (inF 5 m2 U V (X 0).toInt (Y 0).toInt))]) (va_runS (As := [.ref u, .ref dr]) (rest := [.int (pI (inF 5 m2 U V (X 0).toInt (Y 0).toInt))]) ⟨hx, hb, hml, hown, hts⟩ (k_Law_isIn l dC dI cI cZ cF H.size u ux uy m2 cap2 U V rh dr dx dy nd cd P Q rd (by first | with_reducible assumption | omega) (by first | with_reducible assumption | omega) (hq) (by first | with_reducible assumption | omega) (by first | with_reducible assumption | omega) (hpd) (by first | with_reducible assumption | omega)) (csS_61 hts rfl rfl ⟨Nat.le_of_ble_eq_true rfl, Nat.le_of_ble_eq_true rfl⟩) (zPS2 hPc hDc hK hXN) rfl rfl hl.1 rfl (lv_room (Nat.le_of_ble_eq_true rfl)) dX4_isAsBefore_56 ⟨Nat.le_of_ble_eq_true rfl, Nat.le_of_ble_eq_true rfl⟩) hS hFc hFc rfl (fun t H locs ht hB hk1 hS => ?_)
          obtain ⟨hP1, hD1⟩ := hB
          rw [ht] at hP1
          replace hP := z0 hP hD hk1 hP1 hI1
          clear hk1 hPc hDc hFc hP1 hD1 ht hI1
          refine lv_icmp_eq (tgt := 64) hx hb dX4_isAsBefore_59 rfl (fun c_34 => ?_) (fun c_34 => ?_)
          · have c_34 : (pI (inF 5 m2 U V (X 0).toInt (Y 0).toInt)).toInt = (pI (inF 5 m2 U V (P 0).toInt (Q 0).toInt)).toInt := zc_eq rfl rfl c_34
            refine lv_aload_n hx hb dX4_isAsBefore_64 rfl (lv_at hl 1 rfl) ?_
            refine va_get (D := (dC, dI)) (ci := 6) (v := .int (nI n)) (C := RX7) (T := TX7) (N := 4) hx hb hts inX7 hown hK hP 10 rfl rfl 2 (Nat.le_of_ble_eq_true rfl) (hts _ mw_176) (fun _ h9 => h9) rfl dX4_isAsBefore_65 ?_
            refine lv_iconst (v := 1) hx hb dX4_isAsBefore_68 rfl ?_
            have b9_36 : zlt (n) := show n < 2147483648 by omega
            refine lv_icmp_ne (tgt := 79) hx hb dX4_isAsBefore_69 rfl (fun c_35 => ?_) (fun c_35 => ?_)
            · have c_35 : ¬ ((n : Nat) : Int) = 1 := zc_ne (nI_toInt b9_36) rfl c_35
              refine lv_iload_n hx hb dX4_isAsBefore_79 rfl (lv_at hl 3 rfl) ?_
              refine lv_bipush (v := (-2)) hx hb dX4_isAsBefore_80 rfl ?_
              refine lv_icmp_ne (tgt := 87) hx hb dX4_isAsBefore_82 rfl (fun c_37 => ?_) (fun c_37 => ?_)
              · refine lv_iload_n hx hb dX4_isAsBefore_87 rfl (lv_at hl 3 rfl) ?_
                refine lv_iconst (v := (-1)) hx hb dX4_isAsBefore_88 rfl ?_
                refine lv_icmp_ne (tgt := 109) hx hb dX4_isAsBefore_89 rfl (fun c_38 => ?_) (fun c_38 => ?_)
                · exact absurd (by decide) c_38
                · refine lv_aload_n hx hb dX4_isAsBefore_92 rfl (lv_at hl 0 rfl) ?_
                  refine lv_aload_n hx hb dX4_isAsBefore_93 rfl (lv_at hl 1 rfl) ?_
                  refine lv_aload_n hx hb dX4_isAsBefore_94 rfl (lv_at hl 2 rfl) ?_
                  obtain ⟨hPc, hDc, hFc⟩ := zo_sub (wc := [_, _, _, _, _, _, _, _, _, _, _, _, _]) hP hD hS hA [0, 1, 2, 3, 7, 8, 9, 10, 11, 12, 13, 14, 15] (by decide +kernel) rfl
                  refine zcall (st1 := [.int (pI (∃ i, i < edg n rg ∧ ∃ k, k < m2 ∧ swR n X Y P Q (U k).toInt (V k).toInt i))]) (va_runV (As := [.ref r, .ref u]) (rest := []) ⟨hx, hb, hml, hown, hts⟩ (k_Law_isSweptByMove l dC dI cI cZ cF H.size lw dr tg wy br bo aa tx ty nt TX TY rt dx dy nd cd P Q rd r rx ry n cap X Y rg u ux uy m2 cap2 U V rh (by first | with_reducible assumption | omega) (by first | with_reducible assumption | omega) (by first | with_reducible assumption | assumption) (by first | with_reducible assumption | omega) (by first | with_reducible assumption | omega) (by first | with_reducible assumption | assumption) (by first | with_reducible assumption | omega) (by first | with_reducible assumption | omega) (by first | with_reducible assumption | assumption) (by first | with_reducible assumption | omega)) (csV_59 hts rfl rfl ⟨Nat.le_of_ble_eq_true rfl, Nat.le_of_ble_eq_true rfl⟩) (zPV2 (q0 := 0) (ci := 3) hPc hDc hK hXN rfl rfl) rfl rfl hl.1 rfl (lv_room (Nat.le_of_ble_eq_true rfl)) dX4_isAsBefore_95 ⟨Nat.le_of_ble_eq_true rfl, Nat.le_of_ble_eq_true rfl⟩) hS hFc hFc rfl (fun t H locs ht hB hk1 hS => ?_)
                  obtain ⟨q_39, q_40, q_41, q_42, hP1, hD1⟩ := hB
                  rw [ht] at hP1
                  obtain ⟨hP, hD⟩ := zn (W2 := [_, (oc6 tg (.ref tx) (.ref ty) (nI q_39) q_42), (oa tx cI 3 q_40), (oa ty cI 3 q_41), _, _, _, _, _, _, _, _, _, _, _, _]) hP hD hk1 hFc hP1 hD1 zl_19 [false, false, false, false, true, true, true] zl_20 zl_19 (by decide +kernel) rfl rfl rfl rfl rfl
                  clear hk1 hPc hDc hFc hP1 hD1 ht
                  refine lv_if_ne (tgt := 105) hx hb dX4_isAsBefore_98 rfl (fun c_43 => ?_) (fun c_43 => ?_)
                  · have c_43 : ∃ i, i < edg n rg ∧ ∃ k, k < m2 ∧ swR n X Y P Q (U k).toInt (V k).toInt i := zp_1 c_43
                    refine lv_iconst (v := 0) hx hb dX4_isAsBefore_105 rfl ?_
                    refine lv_goto (tgt := 124) hx hb dX4_isAsBefore_106 rfl ?_
                    obtain ⟨hP9, hD9⟩ := zu_sub (wc := [_, _, _, _, _, _, _, _, _, _, _, _, _, _, _, _]) hP hD [true, true, true, true, true, true, true, true, true, true, true, true, true, true, true, true] rfl rfl
                    rw [hQ9]
                    exact W.zret (ty := .boolean) (v := 0) hx hb hr (rfl) (fun t ht hW => ⟨⟨congrArg (fun z => Outcome.returned (some (Value.int z))) (show (0 : Int32) = pI (asb n X Y rg nd P Q rd m2 U V rh ∧ (¬ (∃ i, i < edg n rg ∧ ∃ k, k < m2 ∧ swR n X Y P Q (U k).toInt (V k).toInt i))) from (zp_f (by first | exact ⟨⟨zp_ieq.mp (by first | with_reducible assumption | assumption), fun h9 => by first | with_reducible assumption | assumption | exact absurd (by first | with_reducible assumption | assumption) h9, fun h9 => by first | exact zp_ieq.mp (by first | with_reducible assumption | assumption) | exact absurd (by first | with_reducible assumption | assumption) h9⟩, by assumption⟩ | exact fun h => absurd (by first | with_reducible assumption | assumption) h.2)).symm), q_39, q_40, q_41, q_42, nw, WX, WY, rw, by rw [ht]; exact hP9, hD9⟩, hS.F ht⟩) hS.2.2 dX4_isAsBefore_124
                  · have c_43 : ¬ (∃ i, i < edg n rg ∧ ∃ k, k < m2 ∧ swR n X Y P Q (U k).toInt (V k).toInt i) := zp_0 c_43
                    refine lv_iconst (v := 1) hx hb dX4_isAsBefore_101 rfl ?_
                    refine lv_goto (tgt := 124) hx hb dX4_isAsBefore_102 rfl ?_
                    obtain ⟨hP9, hD9⟩ := zu_sub (wc := [_, _, _, _, _, _, _, _, _, _, _, _, _, _, _, _]) hP hD [true, true, true, true, true, true, true, true, true, true, true, true, true, true, true, true] rfl rfl
                    rw [hQ9]
                    exact W.zret (ty := .boolean) (v := 1) hx hb hr (rfl) (fun t ht hW => ⟨⟨congrArg (fun z => Outcome.returned (some (Value.int z))) (show (1 : Int32) = pI (asb n X Y rg nd P Q rd m2 U V rh ∧ (¬ (∃ i, i < edg n rg ∧ ∃ k, k < m2 ∧ swR n X Y P Q (U k).toInt (V k).toInt i))) from (zp_t (by first | exact ⟨⟨zp_ieq.mp (by first | with_reducible assumption | assumption), fun h9 => by first | with_reducible assumption | assumption | exact absurd (by first | with_reducible assumption | assumption) h9, fun h9 => by first | exact zp_ieq.mp (by first | with_reducible assumption | assumption) | exact absurd (by first | with_reducible assumption | assumption) h9⟩, by assumption⟩ | exact fun h => absurd (by first | with_reducible assumption | assumption) h.2)).symm), q_39, q_40, q_41, q_42, nw, WX, WY, rw, by rw [ht]; exact hP9, hD9⟩, hS.F ht⟩) hS.2.2 dX4_isAsBefore_124
              · exact absurd c_37 (by decide)
            · have c_35 : ((n : Nat) : Int) = 1 := zc_eq (nI_toInt b9_36) rfl c_35
              exfalso; omega
          · have c_34 : ¬ (pI (inF 5 m2 U V (X 0).toInt (Y 0).toInt)).toInt = (pI (inF 5 m2 U V (P 0).toInt (Q 0).toInt)).toInt := zc_ne rfl rfl c_34
            refine lv_iconst (v := 0) hx hb dX4_isAsBefore_62 rfl ?_
            obtain ⟨hP9, hD9⟩ := zu_sub (wc := [_, _, _, _, _, _, _, _, _, _, _, _, _, _, _, _]) hP hD [true, true, true, true, true, true, true, true, true, true, true, true, true, true, true, true] rfl rfl
            rw [hQ9]
            exact W.zret (ty := .boolean) (v := 0) hx hb hr (rfl) (fun t ht hW => ⟨⟨congrArg (fun z => Outcome.returned (some (Value.int z))) (show (0 : Int32) = pI (asb n X Y rg nd P Q rd m2 U V rh ∧ (¬ (∃ i, i < edg n rg ∧ ∃ k, k < m2 ∧ swR n X Y P Q (U k).toInt (V k).toInt i))) from (zp_f (fun h => absurd (zp_ieq.mpr (h.1.2.2 (by first | with_reducible assumption | assumption))) (by first | with_reducible assumption | assumption))).symm), nt, TX, TY, rt, nw, WX, WY, rw, by rw [ht]; exact hP9, hD9⟩, hS.F ht⟩) hS.2.2 dX4_isAsBefore_63
      · have c_23 : ¬ (∀ k, k < m2 → (inF 5 n X Y (U k).toInt (V k).toInt ↔ inF 5 nd P Q (U k).toInt (V k).toInt)) := zp_0 c_23
        refine lv_iconst (v := 0) hx hb dX4_isAsBefore_37 rfl ?_
        obtain ⟨hP9, hD9⟩ := zu_sub (wc := [_, _, _, _, _, _, _, _, _, _, _, _, _, _, _, _]) hP hD [true, true, true, true, true, true, true, true, true, true, true, true, true, true, true, true] rfl rfl
        rw [hQ9]
        exact W.zret (ty := .boolean) (v := 0) hx hb hr (rfl) (fun t ht hW => ⟨⟨congrArg (fun z => Outcome.returned (some (Value.int z))) (show (0 : Int32) = pI (asb n X Y rg nd P Q rd m2 U V rh ∧ (¬ (∃ i, i < edg n rg ∧ ∃ k, k < m2 ∧ swR n X Y P Q (U k).toInt (V k).toInt i))) from (zp_f (fun h => absurd (h.1.2.1 (by first | with_reducible assumption | assumption)) (by first | with_reducible assumption | assumption))).symm), nt, TX, TY, rt, nw, WX, WY, rw, by rw [ht]; exact hP9, hD9⟩, hS.F ht⟩) hS.2.2 dX4_isAsBefore_38
  · have c_1 : ¬ (pI (∃ i, i < prt n rg ∧ ∃ j, j < prt m2 rh ∧ eMt n X Y i m2 U V j)).toInt = (pI (∃ i, i < prt nd rd ∧ ∃ j, j < prt m2 rh ∧ eMt nd P Q i m2 U V j)).toInt := zc_ne rfl rfl c_1
    refine lv_iconst (v := 0) hx hb dX4_isAsBefore_16 rfl ?_
    obtain ⟨hP9, hD9⟩ := zu_sub (wc := [_, _, _, _, _, _, _, _, _, _, _, _, _, _, _, _]) hP hD [true, true, true, true, true, true, true, true, true, true, true, true, true, true, true, true] rfl rfl
    rw [hQ9]
    exact W.zret (ty := .boolean) (v := 0) hx hb hr (rfl) (fun t ht hW => ⟨⟨congrArg (fun z => Outcome.returned (some (Value.int z))) (show (0 : Int32) = pI (asb n X Y rg nd P Q rd m2 U V rh ∧ (¬ (∃ i, i < edg n rg ∧ ∃ k, k < m2 ∧ swR n X Y P Q (U k).toInt (V k).toInt i))) from (zp_f (fun h => absurd (zp_ieq.mpr h.1.1) (by first | with_reducible assumption | assumption))).symm), nt, TX, TY, rt, nw, WX, WY, rw, by rw [ht]; exact hP9, hD9⟩, hS.F ht⟩) hS.2.2 dX4_isAsBefore_17
set_option maxHeartbeats 4000000 in
set_option maxRecDepth 100000 in
theorem k_Law_isAsBefore_b (l : Launch) (dC : Nat → ClassId) (dI : Nat → Nat → Nat) (cI cZ cF : ClassId) (sz : Nat) (lw : Nat) (dr : Nat) (tg : Nat) (wy : Nat) (br : Nat) (bo : Nat) (aa : Nat) (tx : Nat) (ty : Nat) (nt : Nat) (TX : Nat → Int32) (TY : Nat → Int32) (rt : Int32) (wx : Nat) (wz : Nat) (nw : Nat) (WX : Nat → Int32) (WY : Nat → Int32) (rw : Int32) (dx : Nat) (dy : Nat) (nd : Nat) (cd : Nat) (P : Nat → Int32) (Q : Nat → Int32) (rd : Int32) (r : Nat) (rx : Nat) (ry : Nat) (n : Nat) (cap : Nat) (X : Nat → Int32) (Y : Nat → Int32) (rg : Int32) (u : Nat) (ux : Nat) (uy : Nat) (m2 : Nat) (cap2 : Nat) (U : Nat → Int32) (V : Nat → Int32) (rh : Int32) (hnd : nd ≤ cd) (hcd : cd ≤ 1000) (hpd : pls nd P Q) (hn : n ≤ cap) (hcap : cap ≤ 1000) (hp : pls n X Y) (hm : m2 ≤ cap2) (hcap2 : cap2 ≤ 1000) (hq : pls m2 U V) (h1m : 1 ≤ m2) (h1n : 1 ≤ n) (h1d : 1 ≤ nd) (hn1 : ¬ n = 1) : zM l yX4_isAsBefore cX4_isAsBefore 4 (some .boolean) ({ frames := 3, cells := 0, slots := 0, locals := 65 } : Room) [.ref lw, .ref r, .ref u, .int (-2)] (dC, dI) (zTy cI cZ cF) [(oc3 lw (.ref dr) (.ref tg) (.ref wy) (.ref br) (.ref bo) (.ref aa)), (oc6 tg (.ref tx) (.ref ty) (nI nt) rt), (oa tx cI 3 TX), (oa ty cI 3 TY), (oc6 wy (.ref wx) (.ref wz) (nI nw) rw), (oa wx cI 2 WX), (oa wz cI 2 WY), (oc6 dr (.ref dx) (.ref dy) (nI nd) rd), (oa dx cI cd P), (oa dy cI cd Q), (oc6 r (.ref rx) (.ref ry) (nI n) rg), (oa rx cI cap X), (oa ry cI cap Y), (oc6 u (.ref ux) (.ref uy) (nI m2) rh), (oa ux cI cap2 U), (oa uy cI cap2 V)] sz (some (.int (pI (asb n X Y rg nd P Q rd m2 U V rh)))) (fun A t => ∃ (nt1 : Nat), ∃ (TX1 : Nat → Int32), ∃ (TY1 : Nat → Int32), ∃ (rt1 : Int32), ∃ (nw1 : Nat), ∃ (WX1 : Nat → Int32), ∃ (WY1 : Nat → Int32), ∃ (rw1 : Int32), zPD (dC, dI) classes A [(oc3 lw (.ref dr) (.ref tg) (.ref wy) (.ref br) (.ref bo) (.ref aa)), (oc6 tg (.ref tx) (.ref ty) (nI nt1) rt1), (oa tx cI 3 TX1), (oa ty cI 3 TY1), (oc6 wy (.ref wx) (.ref wz) (nI nw1) rw1), (oa wx cI 2 WX1), (oa wz cI 2 WY1), (oc6 dr (.ref dx) (.ref dy) (nI nd) rd), (oa dx cI cd P), (oa dy cI cd Q), (oc6 r (.ref rx) (.ref ry) (nI n) rg), (oa rx cI cap X), (oa ry cI cap Y), (oc6 u (.ref ux) (.ref uy) (nI m2) rh), (oa ux cI cap2 U), (oa uy cI cap2 V)] t.heap) 0 0 := by
  refine zIn (own := "ScaleShop$Law") (loc := [(0, .ref lw), (1, .ref r), (2, .ref u), (3, .int (-2))]) rfl rfl rfl rfl (fun p e s m below meth c hx hb hr hts hown hlocks hml hnm9 A hA hS hP hD hK hXN Q9 hQ9 ls hl => ?_)
  refine lv_aload_n hx hb dX4_isAsBefore_0 rfl (lv_at hl 1 rfl) ?_
  refine lv_aload_n hx hb dX4_isAsBefore_1 rfl (lv_at hl 2 rfl) ?_
  obtain ⟨hPc, hDc, hFc, hI1⟩ := zi_sub (wc := [_, _, _, _, _, _]) hP hD hS hA [10, 11, 12, 13, 14, 15] (by decide +kernel) rfl
  refine zcall (st1 := [.int (pI (∃ i, i < prt n rg ∧ ∃ j, j < prt m2 rh ∧ eMt n X Y i m2 U V j))]) (va_runV (As := [.ref u]) (rest := []) ⟨hx, hb, hml, hown, hts⟩ (k_Row_touches l dC dI cI cZ cF s.heap.size r rx ry n cap X Y rg u ux uy m2 cap2 U V rh (by first | with_reducible assumption | omega) (by first | with_reducible assumption | omega) (hp) (by first | with_reducible assumption | omega) (by first | with_reducible assumption | omega) (hq)) (csV_56 hts rfl rfl ⟨Nat.le_of_ble_eq_true rfl, Nat.le_of_ble_eq_true rfl⟩) (zPV2 (q0 := 0) (ci := 6) hPc hDc hK hXN rfl rfl) rfl rfl hl.1 rfl (lv_room (Nat.le_of_ble_eq_true rfl)) dX4_isAsBefore_2 ⟨Nat.le_of_ble_eq_true rfl, Nat.le_of_ble_eq_true rfl⟩) hS hFc hFc rfl (fun t H locs ht hB hk1 hS => ?_)
  obtain ⟨hP1, hD1⟩ := hB
  rw [ht] at hP1
  replace hP := z0 hP hD hk1 hP1 hI1
  clear hk1 hPc hDc hFc hP1 hD1 ht hI1
  refine lv_aload_n hx hb dX4_isAsBefore_5 rfl (lv_at hl 0 rfl) ?_
  refine va_get (D := (dC, dI)) (ci := 3) (v := .ref dr) (C := RX4) (T := TX4) (N := 6) hx hb hts inX4 hown hK hP 0 rfl rfl 0 (Nat.le_of_ble_eq_true rfl) (hts _ mw_219) (fun _ h9 => h9) rfl dX4_isAsBefore_6 ?_
  refine lv_aload_n hx hb dX4_isAsBefore_9 rfl (lv_at hl 2 rfl) ?_
  obtain ⟨hPc, hDc, hFc, hI1⟩ := zi_sub (wc := [_, _, _, _, _, _]) hP hD hS hA [7, 8, 9, 13, 14, 15] (by decide +kernel) rfl
  refine zcall (st1 := [.int (pI (∃ i, i < prt nd rd ∧ ∃ j, j < prt m2 rh ∧ eMt nd P Q i m2 U V j)), .int (pI (∃ i, i < prt n rg ∧ ∃ j, j < prt m2 rh ∧ eMt n X Y i m2 U V j))]) (va_runV (As := [.ref u]) (rest := [.int (pI (∃ i, i < prt n rg ∧ ∃ j, j < prt m2 rh ∧ eMt n X Y i m2 U V j))]) ⟨hx, hb, hml, hown, hts⟩ (k_Row_touches l dC dI cI cZ cF H.size dr dx dy nd cd P Q rd u ux uy m2 cap2 U V rh (by first | with_reducible assumption | omega) (by first | with_reducible assumption | omega) (hpd) (by first | with_reducible assumption | omega) (by first | with_reducible assumption | omega) (hq)) (csV_56 hts rfl rfl ⟨Nat.le_of_ble_eq_true rfl, Nat.le_of_ble_eq_true rfl⟩) (zPV2 (q0 := 0) (ci := 6) hPc hDc hK hXN rfl rfl) rfl rfl hl.1 rfl (lv_room (Nat.le_of_ble_eq_true rfl)) dX4_isAsBefore_10 ⟨Nat.le_of_ble_eq_true rfl, Nat.le_of_ble_eq_true rfl⟩) hS hFc hFc rfl (fun t H locs ht hB hk1 hS => ?_)
  obtain ⟨hP1, hD1⟩ := hB
  rw [ht] at hP1
  replace hP := z0 hP hD hk1 hP1 hI1
  clear hk1 hPc hDc hFc hP1 hD1 ht hI1
  refine lv_icmp_eq (tgt := 18) hx hb dX4_isAsBefore_13 rfl (fun c_1 => ?_) (fun c_1 => ?_)
  · have c_1 : (pI (∃ i, i < prt n rg ∧ ∃ j, j < prt m2 rh ∧ eMt n X Y i m2 U V j)).toInt = (pI (∃ i, i < prt nd rd ∧ ∃ j, j < prt m2 rh ∧ eMt nd P Q i m2 U V j)).toInt := zc_eq rfl rfl c_1
    refine lv_aload_n hx hb dX4_isAsBefore_18 rfl (lv_at hl 0 rfl) ?_
    refine va_get (D := (dC, dI)) (ci := 3) (v := .ref dr) (C := RX4) (T := TX4) (N := 6) hx hb hts inX4 hown hK hP 0 rfl rfl 0 (Nat.le_of_ble_eq_true rfl) (hts _ mw_219) (fun _ h9 => h9) rfl dX4_isAsBefore_19 ?_
    refine va_get (D := (dC, dI)) (ci := 6) (v := .int rd) (C := RX7) (T := TX7) (N := 4) hx hb hts inX7 hown hK hP 7 rfl rfl 3 (Nat.le_of_ble_eq_true rfl) (hts _ mw_184) (fun _ h9 => h9) rfl dX4_isAsBefore_22 ?_
    refine lv_if_eq (tgt := 39) hx hb dX4_isAsBefore_25 rfl (fun c_2 => ?_) (fun c_2 => ?_)
    · have c_2 : rd.toInt = 0 := zc_eq rfl rfl c_2
      refine lv_aload_n hx hb dX4_isAsBefore_39 rfl (lv_at hl 2 rfl) ?_
      refine va_get (D := (dC, dI)) (ci := 6) (v := .int rh) (C := RX7) (T := TX7) (N := 4) hx hb hts inX7 hown hK hP 13 rfl rfl 3 (Nat.le_of_ble_eq_true rfl) (hts _ mw_184) (fun _ h9 => h9) rfl dX4_isAsBefore_40 ?_
      refine lv_if_eq (tgt := 64) hx hb dX4_isAsBefore_43 rfl (fun c_3 => ?_) (fun c_3 => ?_)
      · have c_3 : rh.toInt = 0 := zc_eq rfl rfl c_3
        refine lv_aload_n hx hb dX4_isAsBefore_64 rfl (lv_at hl 1 rfl) ?_
        refine va_get (D := (dC, dI)) (ci := 6) (v := .int (nI n)) (C := RX7) (T := TX7) (N := 4) hx hb hts inX7 hown hK hP 10 rfl rfl 2 (Nat.le_of_ble_eq_true rfl) (hts _ mw_176) (fun _ h9 => h9) rfl dX4_isAsBefore_65 ?_
        refine lv_iconst (v := 1) hx hb dX4_isAsBefore_68 rfl ?_
        have b9_5 : zlt (n) := show n < 2147483648 by omega
        refine lv_icmp_ne (tgt := 79) hx hb dX4_isAsBefore_69 rfl (fun c_4 => ?_) (fun c_4 => ?_)
        · have c_4 : ¬ ((n : Nat) : Int) = 1 := zc_ne (nI_toInt b9_5) rfl c_4
          refine lv_iload_n hx hb dX4_isAsBefore_79 rfl (lv_at hl 3 rfl) ?_
          refine lv_bipush (v := (-2)) hx hb dX4_isAsBefore_80 rfl ?_
          refine lv_icmp_ne (tgt := 87) hx hb dX4_isAsBefore_82 rfl (fun c_6 => ?_) (fun c_6 => ?_)
          · exact absurd (by decide) c_6
          · refine lv_iconst (v := 1) hx hb dX4_isAsBefore_85 rfl ?_
            obtain ⟨hP9, hD9⟩ := zu_sub (wc := [_, _, _, _, _, _, _, _, _, _, _, _, _, _, _, _]) hP hD [true, true, true, true, true, true, true, true, true, true, true, true, true, true, true, true] rfl rfl
            rw [hQ9]
            exact W.zret (ty := .boolean) (v := 1) hx hb hr (rfl) (fun t ht hW => ⟨⟨congrArg (fun z => Outcome.returned (some (Value.int z))) (show (1 : Int32) = pI (asb n X Y rg nd P Q rd m2 U V rh) from (zp_t (⟨zp_ieq.mp (by first | with_reducible assumption | assumption), fun h9 => by first | with_reducible assumption | assumption | exact absurd (by first | with_reducible assumption | assumption) h9, fun h9 => by first | exact zp_ieq.mp (by first | with_reducible assumption | assumption) | exact absurd (by first | with_reducible assumption | assumption) h9⟩)).symm), nt, TX, TY, rt, nw, WX, WY, rw, by rw [ht]; exact hP9, hD9⟩, hS.F ht⟩) hS.2.2 dX4_isAsBefore_86
        · have c_4 : ((n : Nat) : Int) = 1 := zc_eq (nI_toInt b9_5) rfl c_4
          exfalso; omega
      · have c_3 : ¬ rh.toInt = 0 := zc_ne rfl rfl c_3
        refine lv_aload_n hx hb dX4_isAsBefore_46 rfl (lv_at hl 2 rfl) ?_
        refine lv_aload_n hx hb dX4_isAsBefore_47 rfl (lv_at hl 1 rfl) ?_
        obtain ⟨hPc, hDc, hFc, hI1⟩ := zi_sub (wc := [_, _, _, _, _, _]) hP hD hS hA [13, 14, 15, 10, 11, 12] (by decide +kernel) rfl
        refine zcall (st1 := [.int (pI (inF 5 m2 U V (X 0).toInt (Y 0).toInt))]) (va_runS (As := [.ref u, .ref r]) (rest := []) ⟨hx, hb, hml, hown, hts⟩ (k_Law_isIn l dC dI cI cZ cF H.size u ux uy m2 cap2 U V rh r rx ry n cap X Y rg (by first | with_reducible assumption | omega) (by first | with_reducible assumption | omega) (hq) (by first | with_reducible assumption | omega) (by first | with_reducible assumption | omega) (hp) (by first | with_reducible assumption | omega)) (csS_61 hts rfl rfl ⟨Nat.le_of_ble_eq_true rfl, Nat.le_of_ble_eq_true rfl⟩) (zPS2 hPc hDc hK hXN) rfl rfl hl.1 rfl (lv_room (Nat.le_of_ble_eq_true rfl)) dX4_isAsBefore_48 ⟨Nat.le_of_ble_eq_true rfl, Nat.le_of_ble_eq_true rfl⟩) hS hFc hFc rfl (fun t H locs ht hB hk1 hS => ?_)
        obtain ⟨hP1, hD1⟩ := hB
        rw [ht] at hP1
        replace hP := z0 hP hD hk1 hP1 hI1
        clear hk1 hPc hDc hFc hP1 hD1 ht hI1
        refine lv_aload_n hx hb dX4_isAsBefore_51 rfl (lv_at hl 2 rfl) ?_
        refine lv_aload_n hx hb dX4_isAsBefore_52 rfl (lv_at hl 0 rfl) ?_
        refine va_get (D := (dC, dI)) (ci := 3) (v := .ref dr) (C := RX4) (T := TX4) (N := 6) hx hb hts inX4 hown hK hP 0 rfl rfl 0 (Nat.le_of_ble_eq_true rfl) (hts _ mw_219) (fun _ h9 => h9) rfl dX4_isAsBefore_53 ?_
        obtain ⟨hPc, hDc, hFc, hI1⟩ := zi_sub (wc := [_, _, _, _, _, _]) hP hD hS hA [13, 14, 15, 7, 8, 9] (by decide +kernel) rfl
        refine zcall (st1 := [.int (pI (inF 5 m2 U V (P 0).toInt (Q 0).toInt)), .int (pI (inF 5 m2 U V (X 0).toInt (Y 0).toInt))]) (va_runS (As := [.ref u, .ref dr]) (rest := [.int (pI (inF 5 m2 U V (X 0).toInt (Y 0).toInt))]) ⟨hx, hb, hml, hown, hts⟩ (k_Law_isIn l dC dI cI cZ cF H.size u ux uy m2 cap2 U V rh dr dx dy nd cd P Q rd (by first | with_reducible assumption | omega) (by first | with_reducible assumption | omega) (hq) (by first | with_reducible assumption | omega) (by first | with_reducible assumption | omega) (hpd) (by first | with_reducible assumption | omega)) (csS_61 hts rfl rfl ⟨Nat.le_of_ble_eq_true rfl, Nat.le_of_ble_eq_true rfl⟩) (zPS2 hPc hDc hK hXN) rfl rfl hl.1 rfl (lv_room (Nat.le_of_ble_eq_true rfl)) dX4_isAsBefore_56 ⟨Nat.le_of_ble_eq_true rfl, Nat.le_of_ble_eq_true rfl⟩) hS hFc hFc rfl (fun t H locs ht hB hk1 hS => ?_)
        obtain ⟨hP1, hD1⟩ := hB
        rw [ht] at hP1
        replace hP := z0 hP hD hk1 hP1 hI1
        clear hk1 hPc hDc hFc hP1 hD1 ht hI1
        refine lv_icmp_eq (tgt := 64) hx hb dX4_isAsBefore_59 rfl (fun c_7 => ?_) (fun c_7 => ?_)
        · have c_7 : (pI (inF 5 m2 U V (X 0).toInt (Y 0).toInt)).toInt = (pI (inF 5 m2 U V (P 0).toInt (Q 0).toInt)).toInt := zc_eq rfl rfl c_7
          refine lv_aload_n hx hb dX4_isAsBefore_64 rfl (lv_at hl 1 rfl) ?_
          refine va_get (D := (dC, dI)) (ci := 6) (v := .int (nI n)) (C := RX7) (T := TX7) (N := 4) hx hb hts inX7 hown hK hP 10 rfl rfl 2 (Nat.le_of_ble_eq_true rfl) (hts _ mw_176) (fun _ h9 => h9) rfl dX4_isAsBefore_65 ?_
          refine lv_iconst (v := 1) hx hb dX4_isAsBefore_68 rfl ?_
          have b9_9 : zlt (n) := show n < 2147483648 by omega
          refine lv_icmp_ne (tgt := 79) hx hb dX4_isAsBefore_69 rfl (fun c_8 => ?_) (fun c_8 => ?_)
          · have c_8 : ¬ ((n : Nat) : Int) = 1 := zc_ne (nI_toInt b9_9) rfl c_8
            refine lv_iload_n hx hb dX4_isAsBefore_79 rfl (lv_at hl 3 rfl) ?_
            refine lv_bipush (v := (-2)) hx hb dX4_isAsBefore_80 rfl ?_
            refine lv_icmp_ne (tgt := 87) hx hb dX4_isAsBefore_82 rfl (fun c_10 => ?_) (fun c_10 => ?_)
            · exact absurd (by decide) c_10
            · refine lv_iconst (v := 1) hx hb dX4_isAsBefore_85 rfl ?_
              obtain ⟨hP9, hD9⟩ := zu_sub (wc := [_, _, _, _, _, _, _, _, _, _, _, _, _, _, _, _]) hP hD [true, true, true, true, true, true, true, true, true, true, true, true, true, true, true, true] rfl rfl
              rw [hQ9]
              exact W.zret (ty := .boolean) (v := 1) hx hb hr (rfl) (fun t ht hW => ⟨⟨congrArg (fun z => Outcome.returned (some (Value.int z))) (show (1 : Int32) = pI (asb n X Y rg nd P Q rd m2 U V rh) from (zp_t (⟨zp_ieq.mp (by first | with_reducible assumption | assumption), fun h9 => by first | with_reducible assumption | assumption | exact absurd (by first | with_reducible assumption | assumption) h9, fun h9 => by first | exact zp_ieq.mp (by first | with_reducible assumption | assumption) | exact absurd (by first | with_reducible assumption | assumption) h9⟩)).symm), nt, TX, TY, rt, nw, WX, WY, rw, by rw [ht]; exact hP9, hD9⟩, hS.F ht⟩) hS.2.2 dX4_isAsBefore_86
          · have c_8 : ((n : Nat) : Int) = 1 := zc_eq (nI_toInt b9_9) rfl c_8
            exfalso; omega
        · have c_7 : ¬ (pI (inF 5 m2 U V (X 0).toInt (Y 0).toInt)).toInt = (pI (inF 5 m2 U V (P 0).toInt (Q 0).toInt)).toInt := zc_ne rfl rfl c_7
          refine lv_iconst (v := 0) hx hb dX4_isAsBefore_62 rfl ?_
          obtain ⟨hP9, hD9⟩ := zu_sub (wc := [_, _, _, _, _, _, _, _, _, _, _, _, _, _, _, _]) hP hD [true, true, true, true, true, true, true, true, true, true, true, true, true, true, true, true] rfl rfl
          rw [hQ9]
          exact W.zret (ty := .boolean) (v := 0) hx hb hr (rfl) (fun t ht hW => ⟨⟨congrArg (fun z => Outcome.returned (some (Value.int z))) (show (0 : Int32) = pI (asb n X Y rg nd P Q rd m2 U V rh) from (zp_f (fun h => absurd (zp_ieq.mpr (h.2.2 (by first | with_reducible assumption | assumption))) (by first | with_reducible assumption | assumption))).symm), nt, TX, TY, rt, nw, WX, WY, rw, by rw [ht]; exact hP9, hD9⟩, hS.F ht⟩) hS.2.2 dX4_isAsBefore_63
    · have c_2 : ¬ rd.toInt = 0 := zc_ne rfl rfl c_2
      refine lv_aload_n hx hb dX4_isAsBefore_28 rfl (lv_at hl 0 rfl) ?_
      refine lv_aload_n hx hb dX4_isAsBefore_29 rfl (lv_at hl 1 rfl) ?_
      refine lv_aload_n hx hb dX4_isAsBefore_30 rfl (lv_at hl 2 rfl) ?_
      obtain ⟨hPc, hDc, hFc, hI1⟩ := zi_sub (wc := [_, _, _, _, _, _, _, _, _, _]) hP hD hS hA [0, 7, 8, 9, 10, 11, 12, 13, 14, 15] (by decide +kernel) rfl
      refine zcall (st1 := [.int (pI (∀ k, k < m2 → (inF 5 n X Y (U k).toInt (V k).toInt ↔ inF 5 nd P Q (U k).toInt (V k).toInt)))]) (va_runV (As := [.ref r, .ref u]) (rest := []) ⟨hx, hb, hml, hown, hts⟩ (k_Law_holdsAsBefore l dC dI cI cZ cF H.size lw dr tg wy br bo aa dx dy nd cd P Q rd r rx ry n cap X Y rg u ux uy m2 cap2 U V rh (by first | with_reducible assumption | omega) (by first | with_reducible assumption | omega) (by first | with_reducible assumption | assumption) (by first | with_reducible assumption | omega) (by first | with_reducible assumption | omega) (by first | with_reducible assumption | assumption) (by first | with_reducible assumption | omega) (by first | with_reducible assumption | omega) (by first | with_reducible assumption | assumption)) (csV_58 hts rfl rfl ⟨Nat.le_of_ble_eq_true rfl, Nat.le_of_ble_eq_true rfl⟩) (zPV2 (q0 := 0) (ci := 3) hPc hDc hK hXN rfl rfl) rfl rfl hl.1 rfl (lv_room (Nat.le_of_ble_eq_true rfl)) dX4_isAsBefore_31 ⟨Nat.le_of_ble_eq_true rfl, Nat.le_of_ble_eq_true rfl⟩) hS hFc hFc rfl (fun t H locs ht hB hk1 hS => ?_)
      obtain ⟨hP1, hD1⟩ := hB
      rw [ht] at hP1
      replace hP := z0 hP hD hk1 hP1 hI1
      clear hk1 hPc hDc hFc hP1 hD1 ht hI1
      refine lv_if_ne (tgt := 39) hx hb dX4_isAsBefore_34 rfl (fun c_11 => ?_) (fun c_11 => ?_)
      · have c_11 : ∀ k, k < m2 → (inF 5 n X Y (U k).toInt (V k).toInt ↔ inF 5 nd P Q (U k).toInt (V k).toInt) := zp_1 c_11
        refine lv_aload_n hx hb dX4_isAsBefore_39 rfl (lv_at hl 2 rfl) ?_
        refine va_get (D := (dC, dI)) (ci := 6) (v := .int rh) (C := RX7) (T := TX7) (N := 4) hx hb hts inX7 hown hK hP 13 rfl rfl 3 (Nat.le_of_ble_eq_true rfl) (hts _ mw_184) (fun _ h9 => h9) rfl dX4_isAsBefore_40 ?_
        refine lv_if_eq (tgt := 64) hx hb dX4_isAsBefore_43 rfl (fun c_12 => ?_) (fun c_12 => ?_)
        · have c_12 : rh.toInt = 0 := zc_eq rfl rfl c_12
          refine lv_aload_n hx hb dX4_isAsBefore_64 rfl (lv_at hl 1 rfl) ?_
          refine va_get (D := (dC, dI)) (ci := 6) (v := .int (nI n)) (C := RX7) (T := TX7) (N := 4) hx hb hts inX7 hown hK hP 10 rfl rfl 2 (Nat.le_of_ble_eq_true rfl) (hts _ mw_176) (fun _ h9 => h9) rfl dX4_isAsBefore_65 ?_
          refine lv_iconst (v := 1) hx hb dX4_isAsBefore_68 rfl ?_
          have b9_14 : zlt (n) := show n < 2147483648 by omega
          refine lv_icmp_ne (tgt := 79) hx hb dX4_isAsBefore_69 rfl (fun c_13 => ?_) (fun c_13 => ?_)
          · have c_13 : ¬ ((n : Nat) : Int) = 1 := zc_ne (nI_toInt b9_14) rfl c_13
            refine lv_iload_n hx hb dX4_isAsBefore_79 rfl (lv_at hl 3 rfl) ?_
            refine lv_bipush (v := (-2)) hx hb dX4_isAsBefore_80 rfl ?_
            refine lv_icmp_ne (tgt := 87) hx hb dX4_isAsBefore_82 rfl (fun c_15 => ?_) (fun c_15 => ?_)
            · exact absurd (by decide) c_15
            · refine lv_iconst (v := 1) hx hb dX4_isAsBefore_85 rfl ?_
              obtain ⟨hP9, hD9⟩ := zu_sub (wc := [_, _, _, _, _, _, _, _, _, _, _, _, _, _, _, _]) hP hD [true, true, true, true, true, true, true, true, true, true, true, true, true, true, true, true] rfl rfl
              rw [hQ9]
              exact W.zret (ty := .boolean) (v := 1) hx hb hr (rfl) (fun t ht hW => ⟨⟨congrArg (fun z => Outcome.returned (some (Value.int z))) (show (1 : Int32) = pI (asb n X Y rg nd P Q rd m2 U V rh) from (zp_t (⟨zp_ieq.mp (by first | with_reducible assumption | assumption), fun h9 => by first | with_reducible assumption | assumption | exact absurd (by first | with_reducible assumption | assumption) h9, fun h9 => by first | exact zp_ieq.mp (by first | with_reducible assumption | assumption) | exact absurd (by first | with_reducible assumption | assumption) h9⟩)).symm), nt, TX, TY, rt, nw, WX, WY, rw, by rw [ht]; exact hP9, hD9⟩, hS.F ht⟩) hS.2.2 dX4_isAsBefore_86
          · have c_13 : ((n : Nat) : Int) = 1 := zc_eq (nI_toInt b9_14) rfl c_13
            exfalso; omega
        · have c_12 : ¬ rh.toInt = 0 := zc_ne rfl rfl c_12
          refine lv_aload_n hx hb dX4_isAsBefore_46 rfl (lv_at hl 2 rfl) ?_
          refine lv_aload_n hx hb dX4_isAsBefore_47 rfl (lv_at hl 1 rfl) ?_
          obtain ⟨hPc, hDc, hFc, hI1⟩ := zi_sub (wc := [_, _, _, _, _, _]) hP hD hS hA [13, 14, 15, 10, 11, 12] (by decide +kernel) rfl
          refine zcall (st1 := [.int (pI (inF 5 m2 U V (X 0).toInt (Y 0).toInt))]) (va_runS (As := [.ref u, .ref r]) (rest := []) ⟨hx, hb, hml, hown, hts⟩ (k_Law_isIn l dC dI cI cZ cF H.size u ux uy m2 cap2 U V rh r rx ry n cap X Y rg (by first | with_reducible assumption | omega) (by first | with_reducible assumption | omega) (hq) (by first | with_reducible assumption | omega) (by first | with_reducible assumption | omega) (hp) (by first | with_reducible assumption | omega)) (csS_61 hts rfl rfl ⟨Nat.le_of_ble_eq_true rfl, Nat.le_of_ble_eq_true rfl⟩) (zPS2 hPc hDc hK hXN) rfl rfl hl.1 rfl (lv_room (Nat.le_of_ble_eq_true rfl)) dX4_isAsBefore_48 ⟨Nat.le_of_ble_eq_true rfl, Nat.le_of_ble_eq_true rfl⟩) hS hFc hFc rfl (fun t H locs ht hB hk1 hS => ?_)
          obtain ⟨hP1, hD1⟩ := hB
          rw [ht] at hP1
          replace hP := z0 hP hD hk1 hP1 hI1
          clear hk1 hPc hDc hFc hP1 hD1 ht hI1
          refine lv_aload_n hx hb dX4_isAsBefore_51 rfl (lv_at hl 2 rfl) ?_
          refine lv_aload_n hx hb dX4_isAsBefore_52 rfl (lv_at hl 0 rfl) ?_
          refine va_get (D := (dC, dI)) (ci := 3) (v := .ref dr) (C := RX4) (T := TX4) (N := 6) hx hb hts inX4 hown hK hP 0 rfl rfl 0 (Nat.le_of_ble_eq_true rfl) (hts _ mw_219) (fun _ h9 => h9) rfl dX4_isAsBefore_53 ?_
          obtain ⟨hPc, hDc, hFc, hI1⟩ := zi_sub (wc := [_, _, _, _, _, _]) hP hD hS hA [13, 14, 15, 7, 8, 9] (by decide +kernel) rfl
          refine zcall (st1 := [.int (pI (inF 5 m2 U V (P 0).toInt (Q 0).toInt)), .int (pI (inF 5 m2 U V (X 0).toInt (Y 0).toInt))]) (va_runS (As := [.ref u, .ref dr]) (rest := [.int (pI (inF 5 m2 U V (X 0).toInt (Y 0).toInt))]) ⟨hx, hb, hml, hown, hts⟩ (k_Law_isIn l dC dI cI cZ cF H.size u ux uy m2 cap2 U V rh dr dx dy nd cd P Q rd (by first | with_reducible assumption | omega) (by first | with_reducible assumption | omega) (hq) (by first | with_reducible assumption | omega) (by first | with_reducible assumption | omega) (hpd) (by first | with_reducible assumption | omega)) (csS_61 hts rfl rfl ⟨Nat.le_of_ble_eq_true rfl, Nat.le_of_ble_eq_true rfl⟩) (zPS2 hPc hDc hK hXN) rfl rfl hl.1 rfl (lv_room (Nat.le_of_ble_eq_true rfl)) dX4_isAsBefore_56 ⟨Nat.le_of_ble_eq_true rfl, Nat.le_of_ble_eq_true rfl⟩) hS hFc hFc rfl (fun t H locs ht hB hk1 hS => ?_)
          obtain ⟨hP1, hD1⟩ := hB
          rw [ht] at hP1
          replace hP := z0 hP hD hk1 hP1 hI1
          clear hk1 hPc hDc hFc hP1 hD1 ht hI1
          refine lv_icmp_eq (tgt := 64) hx hb dX4_isAsBefore_59 rfl (fun c_16 => ?_) (fun c_16 => ?_)
          · have c_16 : (pI (inF 5 m2 U V (X 0).toInt (Y 0).toInt)).toInt = (pI (inF 5 m2 U V (P 0).toInt (Q 0).toInt)).toInt := zc_eq rfl rfl c_16
            refine lv_aload_n hx hb dX4_isAsBefore_64 rfl (lv_at hl 1 rfl) ?_
            refine va_get (D := (dC, dI)) (ci := 6) (v := .int (nI n)) (C := RX7) (T := TX7) (N := 4) hx hb hts inX7 hown hK hP 10 rfl rfl 2 (Nat.le_of_ble_eq_true rfl) (hts _ mw_176) (fun _ h9 => h9) rfl dX4_isAsBefore_65 ?_
            refine lv_iconst (v := 1) hx hb dX4_isAsBefore_68 rfl ?_
            have b9_18 : zlt (n) := show n < 2147483648 by omega
            refine lv_icmp_ne (tgt := 79) hx hb dX4_isAsBefore_69 rfl (fun c_17 => ?_) (fun c_17 => ?_)
            · have c_17 : ¬ ((n : Nat) : Int) = 1 := zc_ne (nI_toInt b9_18) rfl c_17
              refine lv_iload_n hx hb dX4_isAsBefore_79 rfl (lv_at hl 3 rfl) ?_
              refine lv_bipush (v := (-2)) hx hb dX4_isAsBefore_80 rfl ?_
              refine lv_icmp_ne (tgt := 87) hx hb dX4_isAsBefore_82 rfl (fun c_19 => ?_) (fun c_19 => ?_)
              · exact absurd (by decide) c_19
              · refine lv_iconst (v := 1) hx hb dX4_isAsBefore_85 rfl ?_
                obtain ⟨hP9, hD9⟩ := zu_sub (wc := [_, _, _, _, _, _, _, _, _, _, _, _, _, _, _, _]) hP hD [true, true, true, true, true, true, true, true, true, true, true, true, true, true, true, true] rfl rfl
                rw [hQ9]
                exact W.zret (ty := .boolean) (v := 1) hx hb hr (rfl) (fun t ht hW => ⟨⟨congrArg (fun z => Outcome.returned (some (Value.int z))) (show (1 : Int32) = pI (asb n X Y rg nd P Q rd m2 U V rh) from (zp_t (⟨zp_ieq.mp (by first | with_reducible assumption | assumption), fun h9 => by first | with_reducible assumption | assumption | exact absurd (by first | with_reducible assumption | assumption) h9, fun h9 => by first | exact zp_ieq.mp (by first | with_reducible assumption | assumption) | exact absurd (by first | with_reducible assumption | assumption) h9⟩)).symm), nt, TX, TY, rt, nw, WX, WY, rw, by rw [ht]; exact hP9, hD9⟩, hS.F ht⟩) hS.2.2 dX4_isAsBefore_86
            · have c_17 : ((n : Nat) : Int) = 1 := zc_eq (nI_toInt b9_18) rfl c_17
              exfalso; omega
          · have c_16 : ¬ (pI (inF 5 m2 U V (X 0).toInt (Y 0).toInt)).toInt = (pI (inF 5 m2 U V (P 0).toInt (Q 0).toInt)).toInt := zc_ne rfl rfl c_16
            refine lv_iconst (v := 0) hx hb dX4_isAsBefore_62 rfl ?_
            obtain ⟨hP9, hD9⟩ := zu_sub (wc := [_, _, _, _, _, _, _, _, _, _, _, _, _, _, _, _]) hP hD [true, true, true, true, true, true, true, true, true, true, true, true, true, true, true, true] rfl rfl
            rw [hQ9]
            exact W.zret (ty := .boolean) (v := 0) hx hb hr (rfl) (fun t ht hW => ⟨⟨congrArg (fun z => Outcome.returned (some (Value.int z))) (show (0 : Int32) = pI (asb n X Y rg nd P Q rd m2 U V rh) from (zp_f (fun h => absurd (zp_ieq.mpr (h.2.2 (by first | with_reducible assumption | assumption))) (by first | with_reducible assumption | assumption))).symm), nt, TX, TY, rt, nw, WX, WY, rw, by rw [ht]; exact hP9, hD9⟩, hS.F ht⟩) hS.2.2 dX4_isAsBefore_63
      · have c_11 : ¬ (∀ k, k < m2 → (inF 5 n X Y (U k).toInt (V k).toInt ↔ inF 5 nd P Q (U k).toInt (V k).toInt)) := zp_0 c_11
        refine lv_iconst (v := 0) hx hb dX4_isAsBefore_37 rfl ?_
        obtain ⟨hP9, hD9⟩ := zu_sub (wc := [_, _, _, _, _, _, _, _, _, _, _, _, _, _, _, _]) hP hD [true, true, true, true, true, true, true, true, true, true, true, true, true, true, true, true] rfl rfl
        rw [hQ9]
        exact W.zret (ty := .boolean) (v := 0) hx hb hr (rfl) (fun t ht hW => ⟨⟨congrArg (fun z => Outcome.returned (some (Value.int z))) (show (0 : Int32) = pI (asb n X Y rg nd P Q rd m2 U V rh) from (zp_f (fun h => absurd (h.2.1 (by first | with_reducible assumption | assumption)) (by first | with_reducible assumption | assumption))).symm), nt, TX, TY, rt, nw, WX, WY, rw, by rw [ht]; exact hP9, hD9⟩, hS.F ht⟩) hS.2.2 dX4_isAsBefore_38
  · have c_1 : ¬ (pI (∃ i, i < prt n rg ∧ ∃ j, j < prt m2 rh ∧ eMt n X Y i m2 U V j)).toInt = (pI (∃ i, i < prt nd rd ∧ ∃ j, j < prt m2 rh ∧ eMt nd P Q i m2 U V j)).toInt := zc_ne rfl rfl c_1
    refine lv_iconst (v := 0) hx hb dX4_isAsBefore_16 rfl ?_
    obtain ⟨hP9, hD9⟩ := zu_sub (wc := [_, _, _, _, _, _, _, _, _, _, _, _, _, _, _, _]) hP hD [true, true, true, true, true, true, true, true, true, true, true, true, true, true, true, true] rfl rfl
    rw [hQ9]
    exact W.zret (ty := .boolean) (v := 0) hx hb hr (rfl) (fun t ht hW => ⟨⟨congrArg (fun z => Outcome.returned (some (Value.int z))) (show (0 : Int32) = pI (asb n X Y rg nd P Q rd m2 U V rh) from (zp_f (fun h => absurd (zp_ieq.mpr h.1) (by first | with_reducible assumption | assumption))).symm), nt, TX, TY, rt, nw, WX, WY, rw, by rw [ht]; exact hP9, hD9⟩, hS.F ht⟩) hS.2.2 dX4_isAsBefore_17
set_option maxHeartbeats 4000000 in
set_option maxRecDepth 100000 in
theorem k_Law_isAsBefore_k (l : Launch) (dC : Nat → ClassId) (dI : Nat → Nat → Nat) (cI cZ cF : ClassId) (sz : Nat) (lw : Nat) (dr : Nat) (tg : Nat) (wy : Nat) (br : Nat) (bo : Nat) (aa : Nat) (tx : Nat) (ty : Nat) (nt : Nat) (TX : Nat → Int32) (TY : Nat → Int32) (rt : Int32) (wx : Nat) (wz : Nat) (nw : Nat) (WX : Nat → Int32) (WY : Nat → Int32) (rw : Int32) (dx : Nat) (dy : Nat) (nd : Nat) (cd : Nat) (P : Nat → Int32) (Q : Nat → Int32) (rd : Int32) (r : Nat) (rx : Nat) (ry : Nat) (n : Nat) (cap : Nat) (X : Nat → Int32) (Y : Nat → Int32) (rg : Int32) (u : Nat) (ux : Nat) (uy : Nat) (m2 : Nat) (cap2 : Nat) (U : Nat → Int32) (V : Nat → Int32) (rh : Int32) (k : Nat) (hnd : nd ≤ cd) (hcd : cd ≤ 1000) (hpd : pls nd P Q) (hn : n ≤ cap) (hcap : cap ≤ 1000) (hp : pls n X Y) (hm : m2 ≤ cap2) (hcap2 : cap2 ≤ 1000) (hq : pls m2 U V) (h1m : 1 ≤ m2) (h1n : 1 ≤ n) (h1d : 1 ≤ nd) (hn1 : ¬ n = 1) (hk : k < n) (hn40 : n ≤ 1000) : zM l yX4_isAsBefore cX4_isAsBefore 4 (some .boolean) ({ frames := 3, cells := 0, slots := 0, locals := 80 } : Room) [.ref lw, .ref r, .ref u, .int (nI k)] (dC, dI) (zTy cI cZ cF) [(oc3 lw (.ref dr) (.ref tg) (.ref wy) (.ref br) (.ref bo) (.ref aa)), (oc6 tg (.ref tx) (.ref ty) (nI nt) rt), (oa tx cI 3 TX), (oa ty cI 3 TY), (oc6 wy (.ref wx) (.ref wz) (nI nw) rw), (oa wx cI 2 WX), (oa wz cI 2 WY), (oc6 dr (.ref dx) (.ref dy) (nI nd) rd), (oa dx cI cd P), (oa dy cI cd Q), (oc6 r (.ref rx) (.ref ry) (nI n) rg), (oa rx cI cap X), (oa ry cI cap Y), (oc6 u (.ref ux) (.ref uy) (nI m2) rh), (oa ux cI cap2 U), (oa uy cI cap2 V)] sz (some (.int (pI (asb n X Y rg nd P Q rd m2 U V rh ∧ (¬ (∃ j, j < m2 ∧ swC n X Y k (U j).toInt (V j).toInt)))))) (fun A t => ∃ (nt1 : Nat), ∃ (TX1 : Nat → Int32), ∃ (TY1 : Nat → Int32), ∃ (rt1 : Int32), ∃ (nw1 : Nat), ∃ (WX1 : Nat → Int32), ∃ (WY1 : Nat → Int32), ∃ (rw1 : Int32), zPD (dC, dI) classes A [(oc3 lw (.ref dr) (.ref tg) (.ref wy) (.ref br) (.ref bo) (.ref aa)), (oc6 tg (.ref tx) (.ref ty) (nI nt1) rt1), (oa tx cI 3 TX1), (oa ty cI 3 TY1), (oc6 wy (.ref wx) (.ref wz) (nI nw1) rw1), (oa wx cI 2 WX1), (oa wz cI 2 WY1), (oc6 dr (.ref dx) (.ref dy) (nI nd) rd), (oa dx cI cd P), (oa dy cI cd Q), (oc6 r (.ref rx) (.ref ry) (nI n) rg), (oa rx cI cap X), (oa ry cI cap Y), (oc6 u (.ref ux) (.ref uy) (nI m2) rh), (oa ux cI cap2 U), (oa uy cI cap2 V)] t.heap) 0 0 := by
  refine zIn (own := "ScaleShop$Law") (loc := [(0, .ref lw), (1, .ref r), (2, .ref u), (3, .int (nI k))]) rfl rfl rfl rfl (fun p e s m below meth c hx hb hr hts hown hlocks hml hnm9 A hA hS hP hD hK hXN Q9 hQ9 ls hl => ?_)
  refine lv_aload_n hx hb dX4_isAsBefore_0 rfl (lv_at hl 1 rfl) ?_
  refine lv_aload_n hx hb dX4_isAsBefore_1 rfl (lv_at hl 2 rfl) ?_
  obtain ⟨hPc, hDc, hFc, hI1⟩ := zi_sub (wc := [_, _, _, _, _, _]) hP hD hS hA [10, 11, 12, 13, 14, 15] (by decide +kernel) rfl
  refine zcall (st1 := [.int (pI (∃ i, i < prt n rg ∧ ∃ j, j < prt m2 rh ∧ eMt n X Y i m2 U V j))]) (va_runV (As := [.ref u]) (rest := []) ⟨hx, hb, hml, hown, hts⟩ (k_Row_touches l dC dI cI cZ cF s.heap.size r rx ry n cap X Y rg u ux uy m2 cap2 U V rh (by first | with_reducible assumption | omega) (by first | with_reducible assumption | omega) (hp) (by first | with_reducible assumption | omega) (by first | with_reducible assumption | omega) (hq)) (csV_56 hts rfl rfl ⟨Nat.le_of_ble_eq_true rfl, Nat.le_of_ble_eq_true rfl⟩) (zPV2 (q0 := 0) (ci := 6) hPc hDc hK hXN rfl rfl) rfl rfl hl.1 rfl (lv_room (Nat.le_of_ble_eq_true rfl)) dX4_isAsBefore_2 ⟨Nat.le_of_ble_eq_true rfl, Nat.le_of_ble_eq_true rfl⟩) hS hFc hFc rfl (fun t H locs ht hB hk1 hS => ?_)
  obtain ⟨hP1, hD1⟩ := hB
  rw [ht] at hP1
  replace hP := z0 hP hD hk1 hP1 hI1
  clear hk1 hPc hDc hFc hP1 hD1 ht hI1
  refine lv_aload_n hx hb dX4_isAsBefore_5 rfl (lv_at hl 0 rfl) ?_
  refine va_get (D := (dC, dI)) (ci := 3) (v := .ref dr) (C := RX4) (T := TX4) (N := 6) hx hb hts inX4 hown hK hP 0 rfl rfl 0 (Nat.le_of_ble_eq_true rfl) (hts _ mw_219) (fun _ h9 => h9) rfl dX4_isAsBefore_6 ?_
  refine lv_aload_n hx hb dX4_isAsBefore_9 rfl (lv_at hl 2 rfl) ?_
  obtain ⟨hPc, hDc, hFc, hI1⟩ := zi_sub (wc := [_, _, _, _, _, _]) hP hD hS hA [7, 8, 9, 13, 14, 15] (by decide +kernel) rfl
  refine zcall (st1 := [.int (pI (∃ i, i < prt nd rd ∧ ∃ j, j < prt m2 rh ∧ eMt nd P Q i m2 U V j)), .int (pI (∃ i, i < prt n rg ∧ ∃ j, j < prt m2 rh ∧ eMt n X Y i m2 U V j))]) (va_runV (As := [.ref u]) (rest := [.int (pI (∃ i, i < prt n rg ∧ ∃ j, j < prt m2 rh ∧ eMt n X Y i m2 U V j))]) ⟨hx, hb, hml, hown, hts⟩ (k_Row_touches l dC dI cI cZ cF H.size dr dx dy nd cd P Q rd u ux uy m2 cap2 U V rh (by first | with_reducible assumption | omega) (by first | with_reducible assumption | omega) (hpd) (by first | with_reducible assumption | omega) (by first | with_reducible assumption | omega) (hq)) (csV_56 hts rfl rfl ⟨Nat.le_of_ble_eq_true rfl, Nat.le_of_ble_eq_true rfl⟩) (zPV2 (q0 := 0) (ci := 6) hPc hDc hK hXN rfl rfl) rfl rfl hl.1 rfl (lv_room (Nat.le_of_ble_eq_true rfl)) dX4_isAsBefore_10 ⟨Nat.le_of_ble_eq_true rfl, Nat.le_of_ble_eq_true rfl⟩) hS hFc hFc rfl (fun t H locs ht hB hk1 hS => ?_)
  obtain ⟨hP1, hD1⟩ := hB
  rw [ht] at hP1
  replace hP := z0 hP hD hk1 hP1 hI1
  clear hk1 hPc hDc hFc hP1 hD1 ht hI1
  refine lv_icmp_eq (tgt := 18) hx hb dX4_isAsBefore_13 rfl (fun c_1 => ?_) (fun c_1 => ?_)
  · have c_1 : (pI (∃ i, i < prt n rg ∧ ∃ j, j < prt m2 rh ∧ eMt n X Y i m2 U V j)).toInt = (pI (∃ i, i < prt nd rd ∧ ∃ j, j < prt m2 rh ∧ eMt nd P Q i m2 U V j)).toInt := zc_eq rfl rfl c_1
    refine lv_aload_n hx hb dX4_isAsBefore_18 rfl (lv_at hl 0 rfl) ?_
    refine va_get (D := (dC, dI)) (ci := 3) (v := .ref dr) (C := RX4) (T := TX4) (N := 6) hx hb hts inX4 hown hK hP 0 rfl rfl 0 (Nat.le_of_ble_eq_true rfl) (hts _ mw_219) (fun _ h9 => h9) rfl dX4_isAsBefore_19 ?_
    refine va_get (D := (dC, dI)) (ci := 6) (v := .int rd) (C := RX7) (T := TX7) (N := 4) hx hb hts inX7 hown hK hP 7 rfl rfl 3 (Nat.le_of_ble_eq_true rfl) (hts _ mw_184) (fun _ h9 => h9) rfl dX4_isAsBefore_22 ?_
    refine lv_if_eq (tgt := 39) hx hb dX4_isAsBefore_25 rfl (fun c_2 => ?_) (fun c_2 => ?_)
    · have c_2 : rd.toInt = 0 := zc_eq rfl rfl c_2
      refine lv_aload_n hx hb dX4_isAsBefore_39 rfl (lv_at hl 2 rfl) ?_
      refine va_get (D := (dC, dI)) (ci := 6) (v := .int rh) (C := RX7) (T := TX7) (N := 4) hx hb hts inX7 hown hK hP 13 rfl rfl 3 (Nat.le_of_ble_eq_true rfl) (hts _ mw_184) (fun _ h9 => h9) rfl dX4_isAsBefore_40 ?_
      refine lv_if_eq (tgt := 64) hx hb dX4_isAsBefore_43 rfl (fun c_3 => ?_) (fun c_3 => ?_)
      · have c_3 : rh.toInt = 0 := zc_eq rfl rfl c_3
        refine lv_aload_n hx hb dX4_isAsBefore_64 rfl (lv_at hl 1 rfl) ?_
        refine va_get (D := (dC, dI)) (ci := 6) (v := .int (nI n)) (C := RX7) (T := TX7) (N := 4) hx hb hts inX7 hown hK hP 10 rfl rfl 2 (Nat.le_of_ble_eq_true rfl) (hts _ mw_176) (fun _ h9 => h9) rfl dX4_isAsBefore_65 ?_
        refine lv_iconst (v := 1) hx hb dX4_isAsBefore_68 rfl ?_
        have b9_5 : zlt (n) := show n < 2147483648 by omega
        refine lv_icmp_ne (tgt := 79) hx hb dX4_isAsBefore_69 rfl (fun c_4 => ?_) (fun c_4 => ?_)
        · have c_4 : ¬ ((n : Nat) : Int) = 1 := zc_ne (nI_toInt b9_5) rfl c_4
          refine lv_iload_n hx hb dX4_isAsBefore_79 rfl (lv_at hl 3 rfl) ?_
          refine lv_bipush (v := (-2)) hx hb dX4_isAsBefore_80 rfl ?_
          have b9_7 : zlt (k) := show k < 2147483648 by omega
          refine lv_icmp_ne (tgt := 87) hx hb dX4_isAsBefore_82 rfl (fun c_6 => ?_) (fun c_6 => ?_)
          · have c_6 : ¬ ((k : Nat) : Int) = (-2) := zc_ne (nI_toInt b9_7) rfl c_6
            refine lv_iload_n hx hb dX4_isAsBefore_87 rfl (lv_at hl 3 rfl) ?_
            refine lv_iconst (v := (-1)) hx hb dX4_isAsBefore_88 rfl ?_
            refine lv_icmp_ne (tgt := 109) hx hb dX4_isAsBefore_89 rfl (fun c_8 => ?_) (fun c_8 => ?_)
            · have c_8 : ¬ ((k : Nat) : Int) = (-1) := zc_ne (nI_toInt b9_7) rfl c_8
              refine lv_aload_n hx hb dX4_isAsBefore_109 rfl (lv_at hl 0 rfl) ?_
              refine lv_aload_n hx hb dX4_isAsBefore_110 rfl (lv_at hl 1 rfl) ?_
              refine lv_aload_n hx hb dX4_isAsBefore_111 rfl (lv_at hl 2 rfl) ?_
              refine lv_iload_n hx hb dX4_isAsBefore_112 rfl (lv_at hl 3 rfl) ?_
              obtain ⟨hPc, hDc, hFc⟩ := zo_sub (wc := [_, _, _, _, _, _, _, _, _, _]) hP hD hS hA [0, 1, 2, 3, 10, 11, 12, 13, 14, 15] (by decide +kernel) rfl
              refine zcall (st1 := [.int (pI (∃ j, j < m2 ∧ swC n X Y k (U j).toInt (V j).toInt))]) (va_runV (As := [.ref r, .ref u, .int (nI k)]) (rest := []) ⟨hx, hb, hml, hown, hts⟩ (k_Law_isSweptByCut l dC dI cI cZ cF H.size lw dr tg wy br bo aa tx ty nt TX TY rt r rx ry n cap X Y rg u ux uy m2 cap2 U V rh k (by first | with_reducible assumption | omega) (by first | with_reducible assumption | omega) (by first | with_reducible assumption | assumption) (by first | with_reducible assumption | omega) (by first | with_reducible assumption | omega) (by first | with_reducible assumption | assumption) (by first | with_reducible assumption | omega)) (csV_60 hts rfl rfl ⟨Nat.le_of_ble_eq_true rfl, Nat.le_of_ble_eq_true rfl⟩) (zPV2 (q0 := 0) (ci := 3) hPc hDc hK hXN rfl rfl) rfl rfl hl.1 rfl (lv_room (Nat.le_of_ble_eq_true rfl)) dX4_isAsBefore_113 ⟨Nat.le_of_ble_eq_true rfl, Nat.le_of_ble_eq_true rfl⟩) hS hFc hFc rfl (fun t H locs ht hB hk1 hS => ?_)
              obtain ⟨q_9, q_10, q_11, q_12, hP1, hD1⟩ := hB
              rw [ht] at hP1
              obtain ⟨hP, hD⟩ := zn (W2 := [_, (oc6 tg (.ref tx) (.ref ty) (nI q_9) q_12), (oa tx cI 3 q_10), (oa ty cI 3 q_11), _, _, _, _, _, _, _, _, _, _, _, _]) hP hD hk1 hFc hP1 hD1 zl_21 zl_22 zl_23 zl_21 (by decide +kernel) rfl rfl rfl rfl rfl
              clear hk1 hPc hDc hFc hP1 hD1 ht
              refine lv_if_ne (tgt := 123) hx hb dX4_isAsBefore_116 rfl (fun c_13 => ?_) (fun c_13 => ?_)
              · have c_13 : ∃ j, j < m2 ∧ swC n X Y k (U j).toInt (V j).toInt := zp_1 c_13
                refine lv_iconst (v := 0) hx hb dX4_isAsBefore_123 rfl ?_
                obtain ⟨hP9, hD9⟩ := zu_sub (wc := [_, _, _, _, _, _, _, _, _, _, _, _, _, _, _, _]) hP hD [true, true, true, true, true, true, true, true, true, true, true, true, true, true, true, true] rfl rfl
                rw [hQ9]
                exact W.zret (ty := .boolean) (v := 0) hx hb hr (rfl) (fun t ht hW => ⟨⟨congrArg (fun z => Outcome.returned (some (Value.int z))) (show (0 : Int32) = pI (asb n X Y rg nd P Q rd m2 U V rh ∧ (¬ (∃ j, j < m2 ∧ swC n X Y k (U j).toInt (V j).toInt))) from (zp_f (by first | exact ⟨⟨zp_ieq.mp (by first | with_reducible assumption | assumption), fun h9 => by first | with_reducible assumption | assumption | exact absurd (by first | with_reducible assumption | assumption) h9, fun h9 => by first | exact zp_ieq.mp (by first | with_reducible assumption | assumption) | exact absurd (by first | with_reducible assumption | assumption) h9⟩, by assumption⟩ | exact fun h => absurd (by first | with_reducible assumption | assumption) h.2)).symm), q_9, q_10, q_11, q_12, nw, WX, WY, rw, by rw [ht]; exact hP9, hD9⟩, hS.F ht⟩) hS.2.2 dX4_isAsBefore_124
              · have c_13 : ¬ (∃ j, j < m2 ∧ swC n X Y k (U j).toInt (V j).toInt) := zp_0 c_13
                refine lv_iconst (v := 1) hx hb dX4_isAsBefore_119 rfl ?_
                refine lv_goto (tgt := 124) hx hb dX4_isAsBefore_120 rfl ?_
                obtain ⟨hP9, hD9⟩ := zu_sub (wc := [_, _, _, _, _, _, _, _, _, _, _, _, _, _, _, _]) hP hD [true, true, true, true, true, true, true, true, true, true, true, true, true, true, true, true] rfl rfl
                rw [hQ9]
                exact W.zret (ty := .boolean) (v := 1) hx hb hr (rfl) (fun t ht hW => ⟨⟨congrArg (fun z => Outcome.returned (some (Value.int z))) (show (1 : Int32) = pI (asb n X Y rg nd P Q rd m2 U V rh ∧ (¬ (∃ j, j < m2 ∧ swC n X Y k (U j).toInt (V j).toInt))) from (zp_t (by first | exact ⟨⟨zp_ieq.mp (by first | with_reducible assumption | assumption), fun h9 => by first | with_reducible assumption | assumption | exact absurd (by first | with_reducible assumption | assumption) h9, fun h9 => by first | exact zp_ieq.mp (by first | with_reducible assumption | assumption) | exact absurd (by first | with_reducible assumption | assumption) h9⟩, by assumption⟩ | exact fun h => absurd (by first | with_reducible assumption | assumption) h.2)).symm), q_9, q_10, q_11, q_12, nw, WX, WY, rw, by rw [ht]; exact hP9, hD9⟩, hS.F ht⟩) hS.2.2 dX4_isAsBefore_124
            · have c_8 : ((k : Nat) : Int) = (-1) := zc_eq (nI_toInt b9_7) rfl c_8
              exfalso; omega
          · have c_6 : ((k : Nat) : Int) = (-2) := zc_eq (nI_toInt b9_7) rfl c_6
            exfalso; omega
        · have c_4 : ((n : Nat) : Int) = 1 := zc_eq (nI_toInt b9_5) rfl c_4
          exfalso; omega
      · have c_3 : ¬ rh.toInt = 0 := zc_ne rfl rfl c_3
        refine lv_aload_n hx hb dX4_isAsBefore_46 rfl (lv_at hl 2 rfl) ?_
        refine lv_aload_n hx hb dX4_isAsBefore_47 rfl (lv_at hl 1 rfl) ?_
        obtain ⟨hPc, hDc, hFc, hI1⟩ := zi_sub (wc := [_, _, _, _, _, _]) hP hD hS hA [13, 14, 15, 10, 11, 12] (by decide +kernel) rfl
        refine zcall (st1 := [.int (pI (inF 5 m2 U V (X 0).toInt (Y 0).toInt))]) (va_runS (As := [.ref u, .ref r]) (rest := []) ⟨hx, hb, hml, hown, hts⟩ (k_Law_isIn l dC dI cI cZ cF H.size u ux uy m2 cap2 U V rh r rx ry n cap X Y rg (by first | with_reducible assumption | omega) (by first | with_reducible assumption | omega) (hq) (by first | with_reducible assumption | omega) (by first | with_reducible assumption | omega) (hp) (by first | with_reducible assumption | omega)) (csS_61 hts rfl rfl ⟨Nat.le_of_ble_eq_true rfl, Nat.le_of_ble_eq_true rfl⟩) (zPS2 hPc hDc hK hXN) rfl rfl hl.1 rfl (lv_room (Nat.le_of_ble_eq_true rfl)) dX4_isAsBefore_48 ⟨Nat.le_of_ble_eq_true rfl, Nat.le_of_ble_eq_true rfl⟩) hS hFc hFc rfl (fun t H locs ht hB hk1 hS => ?_)
        obtain ⟨hP1, hD1⟩ := hB
        rw [ht] at hP1
        replace hP := z0 hP hD hk1 hP1 hI1
        clear hk1 hPc hDc hFc hP1 hD1 ht hI1
        refine lv_aload_n hx hb dX4_isAsBefore_51 rfl (lv_at hl 2 rfl) ?_
        refine lv_aload_n hx hb dX4_isAsBefore_52 rfl (lv_at hl 0 rfl) ?_
        refine va_get (D := (dC, dI)) (ci := 3) (v := .ref dr) (C := RX4) (T := TX4) (N := 6) hx hb hts inX4 hown hK hP 0 rfl rfl 0 (Nat.le_of_ble_eq_true rfl) (hts _ mw_219) (fun _ h9 => h9) rfl dX4_isAsBefore_53 ?_
        obtain ⟨hPc, hDc, hFc, hI1⟩ := zi_sub (wc := [_, _, _, _, _, _]) hP hD hS hA [13, 14, 15, 7, 8, 9] (by decide +kernel) rfl
        refine zcall (st1 := [.int (pI (inF 5 m2 U V (P 0).toInt (Q 0).toInt)), .int (pI (inF 5 m2 U V (X 0).toInt (Y 0).toInt))]) (va_runS (As := [.ref u, .ref dr]) (rest := [.int (pI (inF 5 m2 U V (X 0).toInt (Y 0).toInt))]) ⟨hx, hb, hml, hown, hts⟩ (k_Law_isIn l dC dI cI cZ cF H.size u ux uy m2 cap2 U V rh dr dx dy nd cd P Q rd (by first | with_reducible assumption | omega) (by first | with_reducible assumption | omega) (hq) (by first | with_reducible assumption | omega) (by first | with_reducible assumption | omega) (hpd) (by first | with_reducible assumption | omega)) (csS_61 hts rfl rfl ⟨Nat.le_of_ble_eq_true rfl, Nat.le_of_ble_eq_true rfl⟩) (zPS2 hPc hDc hK hXN) rfl rfl hl.1 rfl (lv_room (Nat.le_of_ble_eq_true rfl)) dX4_isAsBefore_56 ⟨Nat.le_of_ble_eq_true rfl, Nat.le_of_ble_eq_true rfl⟩) hS hFc hFc rfl (fun t H locs ht hB hk1 hS => ?_)
        obtain ⟨hP1, hD1⟩ := hB
        rw [ht] at hP1
        replace hP := z0 hP hD hk1 hP1 hI1
        clear hk1 hPc hDc hFc hP1 hD1 ht hI1
        refine lv_icmp_eq (tgt := 64) hx hb dX4_isAsBefore_59 rfl (fun c_14 => ?_) (fun c_14 => ?_)
        · have c_14 : (pI (inF 5 m2 U V (X 0).toInt (Y 0).toInt)).toInt = (pI (inF 5 m2 U V (P 0).toInt (Q 0).toInt)).toInt := zc_eq rfl rfl c_14
          refine lv_aload_n hx hb dX4_isAsBefore_64 rfl (lv_at hl 1 rfl) ?_
          refine va_get (D := (dC, dI)) (ci := 6) (v := .int (nI n)) (C := RX7) (T := TX7) (N := 4) hx hb hts inX7 hown hK hP 10 rfl rfl 2 (Nat.le_of_ble_eq_true rfl) (hts _ mw_176) (fun _ h9 => h9) rfl dX4_isAsBefore_65 ?_
          refine lv_iconst (v := 1) hx hb dX4_isAsBefore_68 rfl ?_
          have b9_16 : zlt (n) := show n < 2147483648 by omega
          refine lv_icmp_ne (tgt := 79) hx hb dX4_isAsBefore_69 rfl (fun c_15 => ?_) (fun c_15 => ?_)
          · have c_15 : ¬ ((n : Nat) : Int) = 1 := zc_ne (nI_toInt b9_16) rfl c_15
            refine lv_iload_n hx hb dX4_isAsBefore_79 rfl (lv_at hl 3 rfl) ?_
            refine lv_bipush (v := (-2)) hx hb dX4_isAsBefore_80 rfl ?_
            have b9_18 : zlt (k) := show k < 2147483648 by omega
            refine lv_icmp_ne (tgt := 87) hx hb dX4_isAsBefore_82 rfl (fun c_17 => ?_) (fun c_17 => ?_)
            · have c_17 : ¬ ((k : Nat) : Int) = (-2) := zc_ne (nI_toInt b9_18) rfl c_17
              refine lv_iload_n hx hb dX4_isAsBefore_87 rfl (lv_at hl 3 rfl) ?_
              refine lv_iconst (v := (-1)) hx hb dX4_isAsBefore_88 rfl ?_
              refine lv_icmp_ne (tgt := 109) hx hb dX4_isAsBefore_89 rfl (fun c_19 => ?_) (fun c_19 => ?_)
              · have c_19 : ¬ ((k : Nat) : Int) = (-1) := zc_ne (nI_toInt b9_18) rfl c_19
                refine lv_aload_n hx hb dX4_isAsBefore_109 rfl (lv_at hl 0 rfl) ?_
                refine lv_aload_n hx hb dX4_isAsBefore_110 rfl (lv_at hl 1 rfl) ?_
                refine lv_aload_n hx hb dX4_isAsBefore_111 rfl (lv_at hl 2 rfl) ?_
                refine lv_iload_n hx hb dX4_isAsBefore_112 rfl (lv_at hl 3 rfl) ?_
                obtain ⟨hPc, hDc, hFc⟩ := zo_sub (wc := [_, _, _, _, _, _, _, _, _, _]) hP hD hS hA [0, 1, 2, 3, 10, 11, 12, 13, 14, 15] (by decide +kernel) rfl
                refine zcall (st1 := [.int (pI (∃ j, j < m2 ∧ swC n X Y k (U j).toInt (V j).toInt))]) (va_runV (As := [.ref r, .ref u, .int (nI k)]) (rest := []) ⟨hx, hb, hml, hown, hts⟩ (k_Law_isSweptByCut l dC dI cI cZ cF H.size lw dr tg wy br bo aa tx ty nt TX TY rt r rx ry n cap X Y rg u ux uy m2 cap2 U V rh k (by first | with_reducible assumption | omega) (by first | with_reducible assumption | omega) (by first | with_reducible assumption | assumption) (by first | with_reducible assumption | omega) (by first | with_reducible assumption | omega) (by first | with_reducible assumption | assumption) (by first | with_reducible assumption | omega)) (csV_60 hts rfl rfl ⟨Nat.le_of_ble_eq_true rfl, Nat.le_of_ble_eq_true rfl⟩) (zPV2 (q0 := 0) (ci := 3) hPc hDc hK hXN rfl rfl) rfl rfl hl.1 rfl (lv_room (Nat.le_of_ble_eq_true rfl)) dX4_isAsBefore_113 ⟨Nat.le_of_ble_eq_true rfl, Nat.le_of_ble_eq_true rfl⟩) hS hFc hFc rfl (fun t H locs ht hB hk1 hS => ?_)
                obtain ⟨q_20, q_21, q_22, q_23, hP1, hD1⟩ := hB
                rw [ht] at hP1
                obtain ⟨hP, hD⟩ := zn (W2 := [_, (oc6 tg (.ref tx) (.ref ty) (nI q_20) q_23), (oa tx cI 3 q_21), (oa ty cI 3 q_22), _, _, _, _, _, _, _, _, _, _, _, _]) hP hD hk1 hFc hP1 hD1 zl_21 zl_22 zl_23 zl_21 (by decide +kernel) rfl rfl rfl rfl rfl
                clear hk1 hPc hDc hFc hP1 hD1 ht
                refine lv_if_ne (tgt := 123) hx hb dX4_isAsBefore_116 rfl (fun c_24 => ?_) (fun c_24 => ?_)
                · have c_24 : ∃ j, j < m2 ∧ swC n X Y k (U j).toInt (V j).toInt := zp_1 c_24
                  refine lv_iconst (v := 0) hx hb dX4_isAsBefore_123 rfl ?_
                  obtain ⟨hP9, hD9⟩ := zu_sub (wc := [_, _, _, _, _, _, _, _, _, _, _, _, _, _, _, _]) hP hD [true, true, true, true, true, true, true, true, true, true, true, true, true, true, true, true] rfl rfl
                  rw [hQ9]
                  exact W.zret (ty := .boolean) (v := 0) hx hb hr (rfl) (fun t ht hW => ⟨⟨congrArg (fun z => Outcome.returned (some (Value.int z))) (show (0 : Int32) = pI (asb n X Y rg nd P Q rd m2 U V rh ∧ (¬ (∃ j, j < m2 ∧ swC n X Y k (U j).toInt (V j).toInt))) from (zp_f (by first | exact ⟨⟨zp_ieq.mp (by first | with_reducible assumption | assumption), fun h9 => by first | with_reducible assumption | assumption | exact absurd (by first | with_reducible assumption | assumption) h9, fun h9 => by first | exact zp_ieq.mp (by first | with_reducible assumption | assumption) | exact absurd (by first | with_reducible assumption | assumption) h9⟩, by assumption⟩ | exact fun h => absurd (by first | with_reducible assumption | assumption) h.2)).symm), q_20, q_21, q_22, q_23, nw, WX, WY, rw, by rw [ht]; exact hP9, hD9⟩, hS.F ht⟩) hS.2.2 dX4_isAsBefore_124
                · have c_24 : ¬ (∃ j, j < m2 ∧ swC n X Y k (U j).toInt (V j).toInt) := zp_0 c_24
                  refine lv_iconst (v := 1) hx hb dX4_isAsBefore_119 rfl ?_
                  refine lv_goto (tgt := 124) hx hb dX4_isAsBefore_120 rfl ?_
                  obtain ⟨hP9, hD9⟩ := zu_sub (wc := [_, _, _, _, _, _, _, _, _, _, _, _, _, _, _, _]) hP hD [true, true, true, true, true, true, true, true, true, true, true, true, true, true, true, true] rfl rfl
                  rw [hQ9]
                  exact W.zret (ty := .boolean) (v := 1) hx hb hr (rfl) (fun t ht hW => ⟨⟨congrArg (fun z => Outcome.returned (some (Value.int z))) (show (1 : Int32) = pI (asb n X Y rg nd P Q rd m2 U V rh ∧ (¬ (∃ j, j < m2 ∧ swC n X Y k (U j).toInt (V j).toInt))) from (zp_t (by first | exact ⟨⟨zp_ieq.mp (by first | with_reducible assumption | assumption), fun h9 => by first | with_reducible assumption | assumption | exact absurd (by first | with_reducible assumption | assumption) h9, fun h9 => by first | exact zp_ieq.mp (by first | with_reducible assumption | assumption) | exact absurd (by first | with_reducible assumption | assumption) h9⟩, by assumption⟩ | exact fun h => absurd (by first | with_reducible assumption | assumption) h.2)).symm), q_20, q_21, q_22, q_23, nw, WX, WY, rw, by rw [ht]; exact hP9, hD9⟩, hS.F ht⟩) hS.2.2 dX4_isAsBefore_124
              · have c_19 : ((k : Nat) : Int) = (-1) := zc_eq (nI_toInt b9_18) rfl c_19
                exfalso; omega
            · have c_17 : ((k : Nat) : Int) = (-2) := zc_eq (nI_toInt b9_18) rfl c_17
              exfalso; omega
          · have c_15 : ((n : Nat) : Int) = 1 := zc_eq (nI_toInt b9_16) rfl c_15
            exfalso; omega
        · have c_14 : ¬ (pI (inF 5 m2 U V (X 0).toInt (Y 0).toInt)).toInt = (pI (inF 5 m2 U V (P 0).toInt (Q 0).toInt)).toInt := zc_ne rfl rfl c_14
          refine lv_iconst (v := 0) hx hb dX4_isAsBefore_62 rfl ?_
          obtain ⟨hP9, hD9⟩ := zu_sub (wc := [_, _, _, _, _, _, _, _, _, _, _, _, _, _, _, _]) hP hD [true, true, true, true, true, true, true, true, true, true, true, true, true, true, true, true] rfl rfl
          rw [hQ9]
          exact W.zret (ty := .boolean) (v := 0) hx hb hr (rfl) (fun t ht hW => ⟨⟨congrArg (fun z => Outcome.returned (some (Value.int z))) (show (0 : Int32) = pI (asb n X Y rg nd P Q rd m2 U V rh ∧ (¬ (∃ j, j < m2 ∧ swC n X Y k (U j).toInt (V j).toInt))) from (zp_f (fun h => absurd (zp_ieq.mpr (h.1.2.2 (by first | with_reducible assumption | assumption))) (by first | with_reducible assumption | assumption))).symm), nt, TX, TY, rt, nw, WX, WY, rw, by rw [ht]; exact hP9, hD9⟩, hS.F ht⟩) hS.2.2 dX4_isAsBefore_63
    · have c_2 : ¬ rd.toInt = 0 := zc_ne rfl rfl c_2
      refine lv_aload_n hx hb dX4_isAsBefore_28 rfl (lv_at hl 0 rfl) ?_
      refine lv_aload_n hx hb dX4_isAsBefore_29 rfl (lv_at hl 1 rfl) ?_
      refine lv_aload_n hx hb dX4_isAsBefore_30 rfl (lv_at hl 2 rfl) ?_
      obtain ⟨hPc, hDc, hFc, hI1⟩ := zi_sub (wc := [_, _, _, _, _, _, _, _, _, _]) hP hD hS hA [0, 7, 8, 9, 10, 11, 12, 13, 14, 15] (by decide +kernel) rfl
      refine zcall (st1 := [.int (pI (∀ k, k < m2 → (inF 5 n X Y (U k).toInt (V k).toInt ↔ inF 5 nd P Q (U k).toInt (V k).toInt)))]) (va_runV (As := [.ref r, .ref u]) (rest := []) ⟨hx, hb, hml, hown, hts⟩ (k_Law_holdsAsBefore l dC dI cI cZ cF H.size lw dr tg wy br bo aa dx dy nd cd P Q rd r rx ry n cap X Y rg u ux uy m2 cap2 U V rh (by first | with_reducible assumption | omega) (by first | with_reducible assumption | omega) (by first | with_reducible assumption | assumption) (by first | with_reducible assumption | omega) (by first | with_reducible assumption | omega) (by first | with_reducible assumption | assumption) (by first | with_reducible assumption | omega) (by first | with_reducible assumption | omega) (by first | with_reducible assumption | assumption)) (csV_58 hts rfl rfl ⟨Nat.le_of_ble_eq_true rfl, Nat.le_of_ble_eq_true rfl⟩) (zPV2 (q0 := 0) (ci := 3) hPc hDc hK hXN rfl rfl) rfl rfl hl.1 rfl (lv_room (Nat.le_of_ble_eq_true rfl)) dX4_isAsBefore_31 ⟨Nat.le_of_ble_eq_true rfl, Nat.le_of_ble_eq_true rfl⟩) hS hFc hFc rfl (fun t H locs ht hB hk1 hS => ?_)
      obtain ⟨hP1, hD1⟩ := hB
      rw [ht] at hP1
      replace hP := z0 hP hD hk1 hP1 hI1
      clear hk1 hPc hDc hFc hP1 hD1 ht hI1
      refine lv_if_ne (tgt := 39) hx hb dX4_isAsBefore_34 rfl (fun c_25 => ?_) (fun c_25 => ?_)
      · have c_25 : ∀ k, k < m2 → (inF 5 n X Y (U k).toInt (V k).toInt ↔ inF 5 nd P Q (U k).toInt (V k).toInt) := zp_1 c_25
        refine lv_aload_n hx hb dX4_isAsBefore_39 rfl (lv_at hl 2 rfl) ?_
        refine va_get (D := (dC, dI)) (ci := 6) (v := .int rh) (C := RX7) (T := TX7) (N := 4) hx hb hts inX7 hown hK hP 13 rfl rfl 3 (Nat.le_of_ble_eq_true rfl) (hts _ mw_184) (fun _ h9 => h9) rfl dX4_isAsBefore_40 ?_
        refine lv_if_eq (tgt := 64) hx hb dX4_isAsBefore_43 rfl (fun c_26 => ?_) (fun c_26 => ?_)
        · have c_26 : rh.toInt = 0 := zc_eq rfl rfl c_26
          refine lv_aload_n hx hb dX4_isAsBefore_64 rfl (lv_at hl 1 rfl) ?_
          refine va_get (D := (dC, dI)) (ci := 6) (v := .int (nI n)) (C := RX7) (T := TX7) (N := 4) hx hb hts inX7 hown hK hP 10 rfl rfl 2 (Nat.le_of_ble_eq_true rfl) (hts _ mw_176) (fun _ h9 => h9) rfl dX4_isAsBefore_65 ?_
          refine lv_iconst (v := 1) hx hb dX4_isAsBefore_68 rfl ?_
          have b9_28 : zlt (n) := show n < 2147483648 by omega
          refine lv_icmp_ne (tgt := 79) hx hb dX4_isAsBefore_69 rfl (fun c_27 => ?_) (fun c_27 => ?_)
          · have c_27 : ¬ ((n : Nat) : Int) = 1 := zc_ne (nI_toInt b9_28) rfl c_27
            refine lv_iload_n hx hb dX4_isAsBefore_79 rfl (lv_at hl 3 rfl) ?_
            refine lv_bipush (v := (-2)) hx hb dX4_isAsBefore_80 rfl ?_
            have b9_30 : zlt (k) := show k < 2147483648 by omega
            refine lv_icmp_ne (tgt := 87) hx hb dX4_isAsBefore_82 rfl (fun c_29 => ?_) (fun c_29 => ?_)
            · have c_29 : ¬ ((k : Nat) : Int) = (-2) := zc_ne (nI_toInt b9_30) rfl c_29
              refine lv_iload_n hx hb dX4_isAsBefore_87 rfl (lv_at hl 3 rfl) ?_
              refine lv_iconst (v := (-1)) hx hb dX4_isAsBefore_88 rfl ?_
              refine lv_icmp_ne (tgt := 109) hx hb dX4_isAsBefore_89 rfl (fun c_31 => ?_) (fun c_31 => ?_)
              · have c_31 : ¬ ((k : Nat) : Int) = (-1) := zc_ne (nI_toInt b9_30) rfl c_31
                refine lv_aload_n hx hb dX4_isAsBefore_109 rfl (lv_at hl 0 rfl) ?_
                refine lv_aload_n hx hb dX4_isAsBefore_110 rfl (lv_at hl 1 rfl) ?_
                refine lv_aload_n hx hb dX4_isAsBefore_111 rfl (lv_at hl 2 rfl) ?_
                refine lv_iload_n hx hb dX4_isAsBefore_112 rfl (lv_at hl 3 rfl) ?_
                obtain ⟨hPc, hDc, hFc⟩ := zo_sub (wc := [_, _, _, _, _, _, _, _, _, _]) hP hD hS hA [0, 1, 2, 3, 10, 11, 12, 13, 14, 15] (by decide +kernel) rfl
                refine zcall (st1 := [.int (pI (∃ j, j < m2 ∧ swC n X Y k (U j).toInt (V j).toInt))]) (va_runV (As := [.ref r, .ref u, .int (nI k)]) (rest := []) ⟨hx, hb, hml, hown, hts⟩ (k_Law_isSweptByCut l dC dI cI cZ cF H.size lw dr tg wy br bo aa tx ty nt TX TY rt r rx ry n cap X Y rg u ux uy m2 cap2 U V rh k (by first | with_reducible assumption | omega) (by first | with_reducible assumption | omega) (by first | with_reducible assumption | assumption) (by first | with_reducible assumption | omega) (by first | with_reducible assumption | omega) (by first | with_reducible assumption | assumption) (by first | with_reducible assumption | omega)) (csV_60 hts rfl rfl ⟨Nat.le_of_ble_eq_true rfl, Nat.le_of_ble_eq_true rfl⟩) (zPV2 (q0 := 0) (ci := 3) hPc hDc hK hXN rfl rfl) rfl rfl hl.1 rfl (lv_room (Nat.le_of_ble_eq_true rfl)) dX4_isAsBefore_113 ⟨Nat.le_of_ble_eq_true rfl, Nat.le_of_ble_eq_true rfl⟩) hS hFc hFc rfl (fun t H locs ht hB hk1 hS => ?_)
                obtain ⟨q_32, q_33, q_34, q_35, hP1, hD1⟩ := hB
                rw [ht] at hP1
                obtain ⟨hP, hD⟩ := zn (W2 := [_, (oc6 tg (.ref tx) (.ref ty) (nI q_32) q_35), (oa tx cI 3 q_33), (oa ty cI 3 q_34), _, _, _, _, _, _, _, _, _, _, _, _]) hP hD hk1 hFc hP1 hD1 zl_21 zl_22 zl_23 zl_21 (by decide +kernel) rfl rfl rfl rfl rfl
                clear hk1 hPc hDc hFc hP1 hD1 ht
                refine lv_if_ne (tgt := 123) hx hb dX4_isAsBefore_116 rfl (fun c_36 => ?_) (fun c_36 => ?_)
                · have c_36 : ∃ j, j < m2 ∧ swC n X Y k (U j).toInt (V j).toInt := zp_1 c_36
                  refine lv_iconst (v := 0) hx hb dX4_isAsBefore_123 rfl ?_
                  obtain ⟨hP9, hD9⟩ := zu_sub (wc := [_, _, _, _, _, _, _, _, _, _, _, _, _, _, _, _]) hP hD [true, true, true, true, true, true, true, true, true, true, true, true, true, true, true, true] rfl rfl
                  rw [hQ9]
                  exact W.zret (ty := .boolean) (v := 0) hx hb hr (rfl) (fun t ht hW => ⟨⟨congrArg (fun z => Outcome.returned (some (Value.int z))) (show (0 : Int32) = pI (asb n X Y rg nd P Q rd m2 U V rh ∧ (¬ (∃ j, j < m2 ∧ swC n X Y k (U j).toInt (V j).toInt))) from (zp_f (by first | exact ⟨⟨zp_ieq.mp (by first | with_reducible assumption | assumption), fun h9 => by first | with_reducible assumption | assumption | exact absurd (by first | with_reducible assumption | assumption) h9, fun h9 => by first | exact zp_ieq.mp (by first | with_reducible assumption | assumption) | exact absurd (by first | with_reducible assumption | assumption) h9⟩, by assumption⟩ | exact fun h => absurd (by first | with_reducible assumption | assumption) h.2)).symm), q_32, q_33, q_34, q_35, nw, WX, WY, rw, by rw [ht]; exact hP9, hD9⟩, hS.F ht⟩) hS.2.2 dX4_isAsBefore_124
                · have c_36 : ¬ (∃ j, j < m2 ∧ swC n X Y k (U j).toInt (V j).toInt) := zp_0 c_36
                  refine lv_iconst (v := 1) hx hb dX4_isAsBefore_119 rfl ?_
                  refine lv_goto (tgt := 124) hx hb dX4_isAsBefore_120 rfl ?_
                  obtain ⟨hP9, hD9⟩ := zu_sub (wc := [_, _, _, _, _, _, _, _, _, _, _, _, _, _, _, _]) hP hD [true, true, true, true, true, true, true, true, true, true, true, true, true, true, true, true] rfl rfl
                  rw [hQ9]
                  exact W.zret (ty := .boolean) (v := 1) hx hb hr (rfl) (fun t ht hW => ⟨⟨congrArg (fun z => Outcome.returned (some (Value.int z))) (show (1 : Int32) = pI (asb n X Y rg nd P Q rd m2 U V rh ∧ (¬ (∃ j, j < m2 ∧ swC n X Y k (U j).toInt (V j).toInt))) from (zp_t (by first | exact ⟨⟨zp_ieq.mp (by first | with_reducible assumption | assumption), fun h9 => by first | with_reducible assumption | assumption | exact absurd (by first | with_reducible assumption | assumption) h9, fun h9 => by first | exact zp_ieq.mp (by first | with_reducible assumption | assumption) | exact absurd (by first | with_reducible assumption | assumption) h9⟩, by assumption⟩ | exact fun h => absurd (by first | with_reducible assumption | assumption) h.2)).symm), q_32, q_33, q_34, q_35, nw, WX, WY, rw, by rw [ht]; exact hP9, hD9⟩, hS.F ht⟩) hS.2.2 dX4_isAsBefore_124
              · have c_31 : ((k : Nat) : Int) = (-1) := zc_eq (nI_toInt b9_30) rfl c_31
                exfalso; omega
            · have c_29 : ((k : Nat) : Int) = (-2) := zc_eq (nI_toInt b9_30) rfl c_29
              exfalso; omega
          · have c_27 : ((n : Nat) : Int) = 1 := zc_eq (nI_toInt b9_28) rfl c_27
            exfalso; omega
        · have c_26 : ¬ rh.toInt = 0 := zc_ne rfl rfl c_26
          refine lv_aload_n hx hb dX4_isAsBefore_46 rfl (lv_at hl 2 rfl) ?_
          refine lv_aload_n hx hb dX4_isAsBefore_47 rfl (lv_at hl 1 rfl) ?_
          obtain ⟨hPc, hDc, hFc, hI1⟩ := zi_sub (wc := [_, _, _, _, _, _]) hP hD hS hA [13, 14, 15, 10, 11, 12] (by decide +kernel) rfl
          refine zcall (st1 := [.int (pI (inF 5 m2 U V (X 0).toInt (Y 0).toInt))]) (va_runS (As := [.ref u, .ref r]) (rest := []) ⟨hx, hb, hml, hown, hts⟩ (k_Law_isIn l dC dI cI cZ cF H.size u ux uy m2 cap2 U V rh r rx ry n cap X Y rg (by first | with_reducible assumption | omega) (by first | with_reducible assumption | omega) (hq) (by first | with_reducible assumption | omega) (by first | with_reducible assumption | omega) (hp) (by first | with_reducible assumption | omega)) (csS_61 hts rfl rfl ⟨Nat.le_of_ble_eq_true rfl, Nat.le_of_ble_eq_true rfl⟩) (zPS2 hPc hDc hK hXN) rfl rfl hl.1 rfl (lv_room (Nat.le_of_ble_eq_true rfl)) dX4_isAsBefore_48 ⟨Nat.le_of_ble_eq_true rfl, Nat.le_of_ble_eq_true rfl⟩) hS hFc hFc rfl (fun t H locs ht hB hk1 hS => ?_)
          obtain ⟨hP1, hD1⟩ := hB
          rw [ht] at hP1
          replace hP := z0 hP hD hk1 hP1 hI1
          clear hk1 hPc hDc hFc hP1 hD1 ht hI1
          refine lv_aload_n hx hb dX4_isAsBefore_51 rfl (lv_at hl 2 rfl) ?_
          refine lv_aload_n hx hb dX4_isAsBefore_52 rfl (lv_at hl 0 rfl) ?_
          refine va_get (D := (dC, dI)) (ci := 3) (v := .ref dr) (C := RX4) (T := TX4) (N := 6) hx hb hts inX4 hown hK hP 0 rfl rfl 0 (Nat.le_of_ble_eq_true rfl) (hts _ mw_219) (fun _ h9 => h9) rfl dX4_isAsBefore_53 ?_
          obtain ⟨hPc, hDc, hFc, hI1⟩ := zi_sub (wc := [_, _, _, _, _, _]) hP hD hS hA [13, 14, 15, 7, 8, 9] (by decide +kernel) rfl
          refine zcall (st1 := [.int (pI (inF 5 m2 U V (P 0).toInt (Q 0).toInt)), .int (pI (inF 5 m2 U V (X 0).toInt (Y 0).toInt))]) (va_runS (As := [.ref u, .ref dr]) (rest := [.int (pI (inF 5 m2 U V (X 0).toInt (Y 0).toInt))]) ⟨hx, hb, hml, hown, hts⟩ (k_Law_isIn l dC dI cI cZ cF H.size u ux uy m2 cap2 U V rh dr dx dy nd cd P Q rd (by first | with_reducible assumption | omega) (by first | with_reducible assumption | omega) (hq) (by first | with_reducible assumption | omega) (by first | with_reducible assumption | omega) (hpd) (by first | with_reducible assumption | omega)) (csS_61 hts rfl rfl ⟨Nat.le_of_ble_eq_true rfl, Nat.le_of_ble_eq_true rfl⟩) (zPS2 hPc hDc hK hXN) rfl rfl hl.1 rfl (lv_room (Nat.le_of_ble_eq_true rfl)) dX4_isAsBefore_56 ⟨Nat.le_of_ble_eq_true rfl, Nat.le_of_ble_eq_true rfl⟩) hS hFc hFc rfl (fun t H locs ht hB hk1 hS => ?_)
          obtain ⟨hP1, hD1⟩ := hB
          rw [ht] at hP1
          replace hP := z0 hP hD hk1 hP1 hI1
          clear hk1 hPc hDc hFc hP1 hD1 ht hI1
          refine lv_icmp_eq (tgt := 64) hx hb dX4_isAsBefore_59 rfl (fun c_37 => ?_) (fun c_37 => ?_)
          · have c_37 : (pI (inF 5 m2 U V (X 0).toInt (Y 0).toInt)).toInt = (pI (inF 5 m2 U V (P 0).toInt (Q 0).toInt)).toInt := zc_eq rfl rfl c_37
            refine lv_aload_n hx hb dX4_isAsBefore_64 rfl (lv_at hl 1 rfl) ?_
            refine va_get (D := (dC, dI)) (ci := 6) (v := .int (nI n)) (C := RX7) (T := TX7) (N := 4) hx hb hts inX7 hown hK hP 10 rfl rfl 2 (Nat.le_of_ble_eq_true rfl) (hts _ mw_176) (fun _ h9 => h9) rfl dX4_isAsBefore_65 ?_
            refine lv_iconst (v := 1) hx hb dX4_isAsBefore_68 rfl ?_
            have b9_39 : zlt (n) := show n < 2147483648 by omega
            refine lv_icmp_ne (tgt := 79) hx hb dX4_isAsBefore_69 rfl (fun c_38 => ?_) (fun c_38 => ?_)
            · have c_38 : ¬ ((n : Nat) : Int) = 1 := zc_ne (nI_toInt b9_39) rfl c_38
              refine lv_iload_n hx hb dX4_isAsBefore_79 rfl (lv_at hl 3 rfl) ?_
              refine lv_bipush (v := (-2)) hx hb dX4_isAsBefore_80 rfl ?_
              have b9_41 : zlt (k) := show k < 2147483648 by omega
              refine lv_icmp_ne (tgt := 87) hx hb dX4_isAsBefore_82 rfl (fun c_40 => ?_) (fun c_40 => ?_)
              · have c_40 : ¬ ((k : Nat) : Int) = (-2) := zc_ne (nI_toInt b9_41) rfl c_40
                refine lv_iload_n hx hb dX4_isAsBefore_87 rfl (lv_at hl 3 rfl) ?_
                refine lv_iconst (v := (-1)) hx hb dX4_isAsBefore_88 rfl ?_
                refine lv_icmp_ne (tgt := 109) hx hb dX4_isAsBefore_89 rfl (fun c_42 => ?_) (fun c_42 => ?_)
                · have c_42 : ¬ ((k : Nat) : Int) = (-1) := zc_ne (nI_toInt b9_41) rfl c_42
                  refine lv_aload_n hx hb dX4_isAsBefore_109 rfl (lv_at hl 0 rfl) ?_
                  refine lv_aload_n hx hb dX4_isAsBefore_110 rfl (lv_at hl 1 rfl) ?_
                  refine lv_aload_n hx hb dX4_isAsBefore_111 rfl (lv_at hl 2 rfl) ?_
                  refine lv_iload_n hx hb dX4_isAsBefore_112 rfl (lv_at hl 3 rfl) ?_
                  obtain ⟨hPc, hDc, hFc⟩ := zo_sub (wc := [_, _, _, _, _, _, _, _, _, _]) hP hD hS hA [0, 1, 2, 3, 10, 11, 12, 13, 14, 15] (by decide +kernel) rfl
                  refine zcall (st1 := [.int (pI (∃ j, j < m2 ∧ swC n X Y k (U j).toInt (V j).toInt))]) (va_runV (As := [.ref r, .ref u, .int (nI k)]) (rest := []) ⟨hx, hb, hml, hown, hts⟩ (k_Law_isSweptByCut l dC dI cI cZ cF H.size lw dr tg wy br bo aa tx ty nt TX TY rt r rx ry n cap X Y rg u ux uy m2 cap2 U V rh k (by first | with_reducible assumption | omega) (by first | with_reducible assumption | omega) (by first | with_reducible assumption | assumption) (by first | with_reducible assumption | omega) (by first | with_reducible assumption | omega) (by first | with_reducible assumption | assumption) (by first | with_reducible assumption | omega)) (csV_60 hts rfl rfl ⟨Nat.le_of_ble_eq_true rfl, Nat.le_of_ble_eq_true rfl⟩) (zPV2 (q0 := 0) (ci := 3) hPc hDc hK hXN rfl rfl) rfl rfl hl.1 rfl (lv_room (Nat.le_of_ble_eq_true rfl)) dX4_isAsBefore_113 ⟨Nat.le_of_ble_eq_true rfl, Nat.le_of_ble_eq_true rfl⟩) hS hFc hFc rfl (fun t H locs ht hB hk1 hS => ?_)
                  obtain ⟨q_43, q_44, q_45, q_46, hP1, hD1⟩ := hB
                  rw [ht] at hP1
                  obtain ⟨hP, hD⟩ := zn (W2 := [_, (oc6 tg (.ref tx) (.ref ty) (nI q_43) q_46), (oa tx cI 3 q_44), (oa ty cI 3 q_45), _, _, _, _, _, _, _, _, _, _, _, _]) hP hD hk1 hFc hP1 hD1 zl_21 zl_22 zl_23 zl_21 (by decide +kernel) rfl rfl rfl rfl rfl
                  clear hk1 hPc hDc hFc hP1 hD1 ht
                  refine lv_if_ne (tgt := 123) hx hb dX4_isAsBefore_116 rfl (fun c_47 => ?_) (fun c_47 => ?_)
                  · have c_47 : ∃ j, j < m2 ∧ swC n X Y k (U j).toInt (V j).toInt := zp_1 c_47
                    refine lv_iconst (v := 0) hx hb dX4_isAsBefore_123 rfl ?_
                    obtain ⟨hP9, hD9⟩ := zu_sub (wc := [_, _, _, _, _, _, _, _, _, _, _, _, _, _, _, _]) hP hD [true, true, true, true, true, true, true, true, true, true, true, true, true, true, true, true] rfl rfl
                    rw [hQ9]
                    exact W.zret (ty := .boolean) (v := 0) hx hb hr (rfl) (fun t ht hW => ⟨⟨congrArg (fun z => Outcome.returned (some (Value.int z))) (show (0 : Int32) = pI (asb n X Y rg nd P Q rd m2 U V rh ∧ (¬ (∃ j, j < m2 ∧ swC n X Y k (U j).toInt (V j).toInt))) from (zp_f (by first | exact ⟨⟨zp_ieq.mp (by first | with_reducible assumption | assumption), fun h9 => by first | with_reducible assumption | assumption | exact absurd (by first | with_reducible assumption | assumption) h9, fun h9 => by first | exact zp_ieq.mp (by first | with_reducible assumption | assumption) | exact absurd (by first | with_reducible assumption | assumption) h9⟩, by assumption⟩ | exact fun h => absurd (by first | with_reducible assumption | assumption) h.2)).symm), q_43, q_44, q_45, q_46, nw, WX, WY, rw, by rw [ht]; exact hP9, hD9⟩, hS.F ht⟩) hS.2.2 dX4_isAsBefore_124
                  · have c_47 : ¬ (∃ j, j < m2 ∧ swC n X Y k (U j).toInt (V j).toInt) := zp_0 c_47
                    refine lv_iconst (v := 1) hx hb dX4_isAsBefore_119 rfl ?_
                    refine lv_goto (tgt := 124) hx hb dX4_isAsBefore_120 rfl ?_
                    obtain ⟨hP9, hD9⟩ := zu_sub (wc := [_, _, _, _, _, _, _, _, _, _, _, _, _, _, _, _]) hP hD [true, true, true, true, true, true, true, true, true, true, true, true, true, true, true, true] rfl rfl
                    rw [hQ9]
                    exact W.zret (ty := .boolean) (v := 1) hx hb hr (rfl) (fun t ht hW => ⟨⟨congrArg (fun z => Outcome.returned (some (Value.int z))) (show (1 : Int32) = pI (asb n X Y rg nd P Q rd m2 U V rh ∧ (¬ (∃ j, j < m2 ∧ swC n X Y k (U j).toInt (V j).toInt))) from (zp_t (by first | exact ⟨⟨zp_ieq.mp (by first | with_reducible assumption | assumption), fun h9 => by first | with_reducible assumption | assumption | exact absurd (by first | with_reducible assumption | assumption) h9, fun h9 => by first | exact zp_ieq.mp (by first | with_reducible assumption | assumption) | exact absurd (by first | with_reducible assumption | assumption) h9⟩, by assumption⟩ | exact fun h => absurd (by first | with_reducible assumption | assumption) h.2)).symm), q_43, q_44, q_45, q_46, nw, WX, WY, rw, by rw [ht]; exact hP9, hD9⟩, hS.F ht⟩) hS.2.2 dX4_isAsBefore_124
                · have c_42 : ((k : Nat) : Int) = (-1) := zc_eq (nI_toInt b9_41) rfl c_42
                  exfalso; omega
              · have c_40 : ((k : Nat) : Int) = (-2) := zc_eq (nI_toInt b9_41) rfl c_40
                exfalso; omega
            · have c_38 : ((n : Nat) : Int) = 1 := zc_eq (nI_toInt b9_39) rfl c_38
              exfalso; omega
          · have c_37 : ¬ (pI (inF 5 m2 U V (X 0).toInt (Y 0).toInt)).toInt = (pI (inF 5 m2 U V (P 0).toInt (Q 0).toInt)).toInt := zc_ne rfl rfl c_37
            refine lv_iconst (v := 0) hx hb dX4_isAsBefore_62 rfl ?_
            obtain ⟨hP9, hD9⟩ := zu_sub (wc := [_, _, _, _, _, _, _, _, _, _, _, _, _, _, _, _]) hP hD [true, true, true, true, true, true, true, true, true, true, true, true, true, true, true, true] rfl rfl
            rw [hQ9]
            exact W.zret (ty := .boolean) (v := 0) hx hb hr (rfl) (fun t ht hW => ⟨⟨congrArg (fun z => Outcome.returned (some (Value.int z))) (show (0 : Int32) = pI (asb n X Y rg nd P Q rd m2 U V rh ∧ (¬ (∃ j, j < m2 ∧ swC n X Y k (U j).toInt (V j).toInt))) from (zp_f (fun h => absurd (zp_ieq.mpr (h.1.2.2 (by first | with_reducible assumption | assumption))) (by first | with_reducible assumption | assumption))).symm), nt, TX, TY, rt, nw, WX, WY, rw, by rw [ht]; exact hP9, hD9⟩, hS.F ht⟩) hS.2.2 dX4_isAsBefore_63
      · have c_25 : ¬ (∀ k, k < m2 → (inF 5 n X Y (U k).toInt (V k).toInt ↔ inF 5 nd P Q (U k).toInt (V k).toInt)) := zp_0 c_25
        refine lv_iconst (v := 0) hx hb dX4_isAsBefore_37 rfl ?_
        obtain ⟨hP9, hD9⟩ := zu_sub (wc := [_, _, _, _, _, _, _, _, _, _, _, _, _, _, _, _]) hP hD [true, true, true, true, true, true, true, true, true, true, true, true, true, true, true, true] rfl rfl
        rw [hQ9]
        exact W.zret (ty := .boolean) (v := 0) hx hb hr (rfl) (fun t ht hW => ⟨⟨congrArg (fun z => Outcome.returned (some (Value.int z))) (show (0 : Int32) = pI (asb n X Y rg nd P Q rd m2 U V rh ∧ (¬ (∃ j, j < m2 ∧ swC n X Y k (U j).toInt (V j).toInt))) from (zp_f (fun h => absurd (h.1.2.1 (by first | with_reducible assumption | assumption)) (by first | with_reducible assumption | assumption))).symm), nt, TX, TY, rt, nw, WX, WY, rw, by rw [ht]; exact hP9, hD9⟩, hS.F ht⟩) hS.2.2 dX4_isAsBefore_38
  · have c_1 : ¬ (pI (∃ i, i < prt n rg ∧ ∃ j, j < prt m2 rh ∧ eMt n X Y i m2 U V j)).toInt = (pI (∃ i, i < prt nd rd ∧ ∃ j, j < prt m2 rh ∧ eMt nd P Q i m2 U V j)).toInt := zc_ne rfl rfl c_1
    refine lv_iconst (v := 0) hx hb dX4_isAsBefore_16 rfl ?_
    obtain ⟨hP9, hD9⟩ := zu_sub (wc := [_, _, _, _, _, _, _, _, _, _, _, _, _, _, _, _]) hP hD [true, true, true, true, true, true, true, true, true, true, true, true, true, true, true, true] rfl rfl
    rw [hQ9]
    exact W.zret (ty := .boolean) (v := 0) hx hb hr (rfl) (fun t ht hW => ⟨⟨congrArg (fun z => Outcome.returned (some (Value.int z))) (show (0 : Int32) = pI (asb n X Y rg nd P Q rd m2 U V rh ∧ (¬ (∃ j, j < m2 ∧ swC n X Y k (U j).toInt (V j).toInt))) from (zp_f (fun h => absurd (zp_ieq.mpr h.1.1) (by first | with_reducible assumption | assumption))).symm), nt, TX, TY, rt, nw, WX, WY, rw, by rw [ht]; exact hP9, hD9⟩, hS.F ht⟩) hS.2.2 dX4_isAsBefore_17
end
section
/-! cells out of a pool, and back -/
theorem vaP_mem {D : va_G} {cl : List vw_C} {ws : va_W} {H : Heap} : va_P D cl ws H ↔ ∀ q ∈ ws, va_at D cl q H :=
  ⟨fun h q hq => by obtain ⟨k, hk⟩ := List.getElem?_of_mem hq; exact h k q hk, fun h k q hk => h q (List.mem_of_getElem? hk)⟩
theorem vaD_mem {A : Nat → Prop} {ws : va_W} : va_D A ws ↔ ws.Pairwise (fun p q => p.1 ≠ q.1) ∧ ∀ q ∈ ws, A q.1 := by
  constructor
  · intro h
    refine ⟨List.pairwise_iff_getElem.mpr fun i j hi hj hij e => ?_, fun q hq => ?_⟩
    · have := h.1 i j _ _ (List.getElem?_eq_getElem hi) (List.getElem?_eq_getElem hj) e; omega
    · obtain ⟨k, hk⟩ := List.getElem?_of_mem hq; exact h.2 k q hk
  · intro h
    refine ⟨fun i j p q hp hq e => ?_, fun k q hk => h.2 q (List.mem_of_getElem? hk)⟩
    obtain ⟨hi, ep⟩ := List.getElem?_eq_some_iff.mp hp
    obtain ⟨hj, eq⟩ := List.getElem?_eq_some_iff.mp hq
    have hw := List.pairwise_iff_getElem.mp h.1
    rcases Nat.lt_trichotomy i j with g | g | g
    · exact absurd (by rw [ep, eq]; exact e) (hw i j hi hj g)
    · exact g
    · exact absurd (by rw [ep, eq]; exact e.symm) (hw j i hj hi g)
/-- cells of a pool -/
def inPl (L : List Nat) (f : Nat → va_E) : va_W → Prop
  | [] => True
  | c :: cs => (c.1 ∈ L ∧ f c.1 = c.2) ∧ inPl L f cs
theorem inPl_mem {L : List Nat} {f : Nat → va_E} : ∀ {cs : va_W}, inPl L f cs → ∀ c ∈ cs, c.1 ∈ L ∧ f c.1 = c.2
  | c :: cs, h, d, hd => by
    rcases List.mem_cons.mp hd with e | e
    · rw [e]; exact h.1
    · exact inPl_mem h.2 d e
/-- what is left of a pool -/
def outPl (L : List Nat) (cs : va_W) : List Nat := L.filter (fun a => decide (a ∉ cs.map Prod.fst))
theorem outPl_mem {L : List Nat} {cs : va_W} {a : Nat} : a ∈ outPl L cs ↔ a ∈ L ∧ a ∉ cs.map Prod.fst := by
  unfold outPl; rw [List.mem_filter]; exact and_congr_right fun _ => decide_eq_true_iff
theorem pl_mem {L : List Nat} {f : Nat → va_E} {q : Nat × va_E} : q ∈ va_pl L f ↔ q.1 ∈ L ∧ f q.1 = q.2 := by
  unfold va_pl; rw [List.mem_map]
  exact ⟨fun ⟨a, ha, e⟩ => by rw [← e]; exact ⟨ha, rfl⟩, fun ⟨h1, h2⟩ => ⟨q.1, h1, by rw [h2]⟩⟩
theorem pl_out {D : va_G} {cl : List vw_C} {A : Nat → Prop} {X : va_W} {L : List Nat} {f : Nat → va_E} {H : Heap} (hP : va_P D cl (X ++ va_pl L f) H) (hD : va_D A (X ++ va_pl L f)) (cs : va_W) (hc : inPl L f cs) (hn : cs.Pairwise (fun p q => p.1 ≠ q.1)) :
    va_P D cl ((X ++ cs) ++ va_pl (outPl L cs) f) H ∧ va_D A ((X ++ cs) ++ va_pl (outPl L cs) f) := by
  have hm : ∀ q, q ∈ (X ++ cs) ++ va_pl (outPl L cs) f → q ∈ X ++ va_pl L f := fun q hq => by
    rcases List.mem_append.mp hq with hq | hq
    · rcases List.mem_append.mp hq with hq | hq
      · exact List.mem_append.mpr (Or.inl hq)
      · exact List.mem_append.mpr (Or.inr (pl_mem.mpr (inPl_mem hc q hq)))
    · have := pl_mem.mp hq
      exact List.mem_append.mpr (Or.inr (pl_mem.mpr ⟨(outPl_mem.mp this.1).1, this.2⟩))
  refine ⟨vaP_mem.mpr fun q hq => vaP_mem.mp hP q (hm q hq), vaD_mem.mpr ⟨?_, fun q hq => (vaD_mem.mp hD).2 q (hm q hq)⟩⟩
  have hw := List.pairwise_append.mp (vaD_mem.mp hD).1
  refine List.pairwise_append.mpr ⟨List.pairwise_append.mpr ⟨hw.1, hn, fun p hp q hq => hw.2.2 p hp q (pl_mem.mpr (inPl_mem hc q hq))⟩, ?_, fun p hp q hq e => ?_⟩
  · have hs : List.Sublist (va_pl (outPl L cs) f) (va_pl L f) := by unfold va_pl outPl; exact (List.filter_sublist).map _
    exact hw.2.1.sublist hs
  · have hq2 := pl_mem.mp hq
    have hq3 := outPl_mem.mp hq2.1
    rcases List.mem_append.mp hp with hp | hp
    · exact hw.2.2 p hp q (pl_mem.mpr ⟨hq3.1, hq2.2⟩) e
    · exact hq3.2 (by rw [← e]; exact List.mem_map.mpr ⟨p, hp, rfl⟩)
/-- nothing was written: the pool as it was -/
theorem pl_back {D : va_G} {cl : List vw_C} {X : va_W} {L : List Nat} {f : Nat → va_E} {H : Heap} {cs : va_W} (hP : va_P D cl ((X ++ cs) ++ va_pl (outPl L cs) f) H) (hc : inPl L f cs) : va_P D cl (X ++ va_pl L f) H := by
  refine vaP_mem.mpr fun q hq => vaP_mem.mp hP q ?_
  rcases List.mem_append.mp hq with hq | hq
  · exact List.mem_append.mpr (Or.inl (List.mem_append.mpr (Or.inl hq)))
  · have h := pl_mem.mp hq
    by_cases e : q.1 ∈ cs.map Prod.fst
    · obtain ⟨c, hc2, e2⟩ := List.mem_map.mp e
      have h3 := (inPl_mem hc c hc2).2
      have : q = c := Prod.ext e2.symm (by rw [← h.2, ← h3, e2])
      rw [this]; exact List.mem_append.mpr (Or.inl (List.mem_append.mpr (Or.inr hc2)))
    · exact List.mem_append.mpr (Or.inr (pl_mem.mpr ⟨outPl_mem.mpr ⟨h.1, e⟩, h.2⟩))
/-- a pool with some cells' contents anew -/
def plU (f : Nat → va_E) : va_W → Nat → va_E
  | [] => f
  | c :: cs => va_up (plU f cs) c.1 c.2
theorem plU_o {f : Nat → va_E} : ∀ {cs : va_W} {a : Nat}, a ∉ cs.map Prod.fst → plU f cs a = f a
  | [], _, _ => rfl
  | c :: cs, a, h => by
    show va_up (plU f cs) c.1 c.2 a = f a
    unfold va_up
    rw [if_neg (fun e => h (by rw [e]; exact List.mem_cons_self ..))]
    exact plU_o (fun e => h (List.mem_cons_of_mem _ e))
theorem plU_at {f : Nat → va_E} : ∀ {cs : va_W}, cs.Pairwise (fun p q => p.1 ≠ q.1) → ∀ c ∈ cs, plU f cs c.1 = c.2
  | c :: cs, hw, d, hd => by
    have hw := List.pairwise_cons.mp hw
    show va_up (plU f cs) c.1 c.2 d.1 = d.2
    unfold va_up
    rcases List.mem_cons.mp hd with e | e
    · rw [e, if_pos rfl]
    · rw [if_neg (fun g => hw.1 d e g.symm)]; exact plU_at hw.2 d e
/-- what was written goes back into the pool, what is new goes in too -/
theorem pl_in {D : va_G} {cl : List vw_C} {A : Nat → Prop} {X cs : va_W} {R : List Nat} {f : Nat → va_E} {H : Heap} (hP : va_P D cl ((X ++ cs) ++ va_pl R f) H) (hD : va_D A ((X ++ cs) ++ va_pl R f)) :
    va_P D cl (X ++ va_pl (cs.map Prod.fst ++ R) (plU f cs)) H ∧ va_D A (X ++ va_pl (cs.map Prod.fst ++ R) (plU f cs)) := by
  have hw := List.pairwise_append.mp (vaD_mem.mp hD).1
  have hw2 := List.pairwise_append.mp hw.1
  have e : (X ++ cs) ++ va_pl R f = X ++ va_pl (cs.map Prod.fst ++ R) (plU f cs) := by
    rw [List.append_assoc]
    congr 1
    unfold va_pl
    rw [List.map_append, List.map_map]
    congr 1
    · exact (List.map_id cs).symm.trans (List.map_congr_left (f := id) (g := (fun a => (a, plU f cs a)) ∘ Prod.fst) (fun c hc => Prod.ext rfl (plU_at hw2.2.1 c hc).symm))
    · refine List.map_congr_left fun a ha => Prod.ext rfl (plU_o fun g => ?_).symm
      obtain ⟨c, hc, e2⟩ := List.mem_map.mp g
      exact hw.2.2 c (List.mem_append.mpr (Or.inr hc)) (a, f a) (pl_mem.mpr ⟨ha, rfl⟩) e2
  rw [← e]; exact ⟨hP, hD⟩
theorem cl_ne {f : Nat → va_E} {a b i j : Nat} {x y : List Value} (h1 : f a = .inr (i, x)) (h2 : f b = .inr (j, y)) (h : i ≠ j) : a ≠ b := fun e => by
  rw [e, h2] at h1; exact h (Prod.mk.inj (Sum.inr.inj h1)).1.symm
theorem ca_ne {f : Nat → va_E} {a b i : Nat} {x : List Value} {y : ClassId × vp_A} (h1 : f a = .inr (i, x)) (h2 : f b = .inl y) : a ≠ b := fun e => by
  rw [e, h2] at h1; exact absurd h1 (by intro g; cases g)
end
section
/-! a feature as the class holds it, among cells of a pool -/
theorem vaD_ad {A : Nat → Prop} {ws ws' : va_W} (h : ws.map Prod.fst = ws'.map Prod.fst) (hD : va_D A ws) : va_D A ws' := by
  rw [vaD_mem] at hD ⊢
  have e : ∀ v : va_W, v.Pairwise (fun p q => p.1 ≠ q.1) ↔ (v.map Prod.fst).Pairwise (· ≠ ·) := fun v => List.pairwise_map.symm
  refine ⟨(e ws').mpr (by rw [← h]; exact (e ws).mp hD.1), fun q hq => ?_⟩
  have hm : q.1 ∈ ws.map Prod.fst := by rw [h]; exact List.mem_map.mpr ⟨q, hq, rfl⟩
  obtain ⟨p, hp, ep⟩ := List.mem_map.mp hm
  rw [← ep]; exact hD.2 p hp
theorem pl_sep {A : Nat → Prop} {X : va_W} {L : List Nat} {f : Nat → va_E} {q : Nat × va_E} {a : Nat} (hD : va_D A (X ++ va_pl L f)) (hq : q ∈ X) (ha : a ∈ L) : ¬ a = q.1 := fun e =>
  (List.pairwise_append.mp (vaD_mem.mp hD).1).2.2 q hq (a, f a) (pl_mem.mpr ⟨ha, rfl⟩) e.symm
/-- a row's cells -/
def rwA (cI : ClassId) (L : List Nat) (f : Nat → va_E) (r rx ry n cap : Nat) (X Y : Nat → Int32) (rg : Int32) : Prop :=
  (r ∈ L ∧ f r = .inr (6, [.ref rx, .ref ry, .int (nI n), .int rg])) ∧ (rx ∈ L ∧ f rx = .inl (cI, cap, .inl X)) ∧ (ry ∈ L ∧ f ry = .inl (cI, cap, .inl Y)) ∧ rx ≠ ry
/-- how a row stands for a feature's corners -/
def rwR (kd mn cx cy : Nat → Int32) (i cap : Nat) (X Y : Nat → Int32) (rg : Int32) : Prop :=
  nN (mn i) ≤ cap ∧ cap ≤ 40 ∧ (rg = 0 ∨ rg = 1) ∧ rg.toInt = (if 5 ≤ (kd i).toInt then 1 else 0) ∧ ∀ k, k < nN (mn i) → X k = cF40 cx i k ∧ Y k = cF40 cy i k
/-- feature i: there, and not torn -/
def vwL (cI : ClassId) (L : List Nat) (f : Nat → va_E) (FA : Nat → Option Nat) (kd st mn cx cy : Nat → Int32) (i : Nat) : Prop :=
  ∃ (fe lk lo : Nat) (rk wd tw pa pb gb jt we : Int32) (fm : Value) (r rx ry cap : Nat) (X Y : Nat → Int32) (rg : Int32),
    FA i = some fe ∧ (fe ∈ L ∧ f fe = .inr (1, [.int rk, .int wd, .int tw, .int pa, .int pb, .ref lo, .ref lk, fm])) ∧ (lk ∈ L ∧ f lk = .inr (4, [.int (kd i), .int (st i), .ref r, .int gb, .int jt, .int we])) ∧ rwA cI L f r rx ry (nN (mn i)) cap X Y rg ∧ rwR kd mn cx cy i cap X Y rg
/-- feature i: any look -/
def vwS (L : List Nat) (f : Nat → va_E) (FA : Nat → Option Nat) (kd st : Nat → Int32) (i : Nat) : Prop :=
  ∃ (fe lk lo : Nat) (rk wd tw pa pb gb jt we : Int32) (fm rw : Value),
    FA i = some fe ∧ (fe ∈ L ∧ f fe = .inr (1, [.int rk, .int wd, .int tw, .int pa, .int pb, .ref lo, .ref lk, fm])) ∧ (lk ∈ L ∧ f lk = .inr (4, [.int (kd i), .int (st i), rw, .int gb, .int jt, .int we]))
/-- feature i: torn -/
def vwT (L : List Nat) (f : Nat → va_E) (FA : Nat → Option Nat) (kd st : Nat → Int32) (i : Nat) : Prop :=
  ∃ (fe lk lo : Nat) (rk wd tw pa pb gb jt we : Int32) (fm : Value),
    FA i = some fe ∧ (fe ∈ L ∧ f fe = .inr (1, [.int rk, .int wd, .int tw, .int pa, .int pb, .ref lo, .ref lk, fm])) ∧ (lk ∈ L ∧ f lk = .inr (4, [.int (kd i), .int (st i), .null, .int gb, .int jt, .int we]))
/-- feature i as the reference has it -/
def vwO (cI : ClassId) (L : List Nat) (f : Nat → va_E) (FA : Nat → Option Nat) (kd st tn mn cx cy : Nat → Int32) (i : Nat) : Prop :=
  vwS L f FA kd st i ∧ (¬ (tn i).toInt = 0 → vwT L f FA kd st i) ∧ ((tn i).toInt = 0 → vwL cI L f FA kd st mn cx cy i)
theorem vw4 {cI : ClassId} {L : List Nat} {f : Nat → va_E} {FA : Nat → Option Nat} {kd st tn mn cx cy : Nat → Int32} {i f0 ft : Nat} (h : i < ft → i ≠ f0 → vwO cI L f FA kd st tn mn cx cy i) (hi : i < ft) :
    i = f0 ∨ (i ≠ f0 ∧ ¬ (st i).toInt = 1 ∧ vwS L f FA kd st i) ∨ (i ≠ f0 ∧ ¬ (tn i).toInt = 0 ∧ vwT L f FA kd st i) ∨ (i ≠ f0 ∧ lvF ft st tn i ∧ vwL cI L f FA kd st mn cx cy i) := by
  by_cases e : i = f0
  · exact Or.inl e
  · have v := h hi e
    by_cases s1 : (st i).toInt = 1
    · by_cases t0 : (tn i).toInt = 0
      · exact Or.inr (Or.inr (Or.inr ⟨e, ⟨hi, s1, t0⟩, v.2.2 t0⟩))
      · exact Or.inr (Or.inr (Or.inl ⟨e, t0, v.2.1 t0⟩))
    · exact Or.inr (Or.inl ⟨e, s1, v.1⟩)
theorem pw2 {a b : Nat} {x y : va_E} (h : a ≠ b) : List.Pairwise (fun p q : Nat × va_E => p.1 ≠ q.1) [(a, x), (b, y)] := by
  simp [h]
theorem pwF {f : Nat → va_E} {fe lk : Nat} {x1 x2 : List Value} {e1 e2 : va_E} (h1 : f fe = .inr (1, x1)) (h2 : f lk = .inr (4, x2)) : List.Pairwise (fun p q : Nat × va_E => p.1 ≠ q.1) [(fe, e1), (lk, e2)] := pw2 (cl_ne h1 h2 (by decide))
theorem pwR {f : Nat → va_E} {fe lk r rx ry : Nat} {x1 x2 x3 : List Value} {y1 y2 : ClassId × vp_A} {e1 e2 e3 e4 e5 : va_E} (h1 : f fe = .inr (1, x1)) (h2 : f lk = .inr (4, x2)) (h3 : f r = .inr (6, x3)) (h4 : f rx = .inl y1) (h5 : f ry = .inl y2) (h : rx ≠ ry) :
    List.Pairwise (fun p q : Nat × va_E => p.1 ≠ q.1) [(fe, e1), (lk, e2), (r, e3), (rx, e4), (ry, e5)] := by
  have a1 := cl_ne h1 h2 (by decide); have a2 := cl_ne h1 h3 (by decide); have a3 := ca_ne h1 h4; have a4 := ca_ne h1 h5
  have b1 := cl_ne h2 h3 (by decide); have b2 := ca_ne h2 h4; have b3 := ca_ne h2 h5
  have c1 := ca_ne h3 h4; have c2 := ca_ne h3 h5
  simp [a1, a2, a3, a4, b1, b2, b3, c1, c2, h]
/-- those that are there have corners enough -/
def okN (ft : Nat) (st tn kd mn : Nat → Int32) : Prop := ∀ q, lvF ft st tn q → ((kd q).toInt = 0 ∧ nN (mn q) = 1) ∨ (¬ (kd q).toInt = 0 ∧ 2 ≤ nN (mn q))
theorem prt_eO {kd : Int} {n : Nat} {rg : Int32} (hr : rg.toInt = if 5 ≤ kd then 1 else 0) (h : (kd = 0 ∧ n = 1) ∨ (¬ kd = 0 ∧ 2 ≤ n)) : prt n rg = eO kd n := by
  rcases h with ⟨h1, h2⟩ | ⟨h1, h2⟩
  · subst h1 h2; unfold prt eO; rw [if_pos rfl, if_pos rfl]
  · unfold prt; rw [if_neg (by omega)]; exact edg_eO hr h1 h2
theorem on_iff {kd mn cx cy : Nat → Int32} {i cap : Nat} {X Y : Nat → Int32} {rg : Int32} {x y : Int} (h : rwR kd mn cx cy i cap X Y rg) (h2 : ((kd i).toInt = 0 ∧ nN (mn i) = 1) ∨ (¬ (kd i).toInt = 0 ∧ 2 ≤ nN (mn i))) :
    (∃ j, j < prt (nN (mn i)) rg ∧ eOn (nN (mn i)) X Y j x y) ↔ onF kd mn cx cy i x y := by
  unfold onF
  rw [prt_eO h.2.2.2.1 h2]
  have he := eO_le (k := (kd i).toInt) (n := nN (mn i)) (by omega)
  exact exists_congr fun j => and_congr_right fun hj => by rw [eOn_cg h.2.2.2.2 (by omega)]
theorem rw_pls {kd mn cx cy : Nat → Int32} {i cap : Nat} {X Y : Nat → Int32} {rg : Int32} (h : rwR kd mn cx cy i cap X Y rg) (hw : wfM mn cx cy i) : pls (nN (mn i)) X Y := (pls_cg h.2.2.2.2).mpr hw.2.2
end
section
/-! cells back into the pool, the world with holes -/
theorem pl_bk {D : va_G} {cl : List vw_C} {A : Nat → Prop} {X W1 W0 cs : va_W} {L T : List Nat} {f : Nat → va_E} {H : Heap} (hT : outPl L cs = T) (hP : va_P D cl (W1 ++ va_pl T f) H) (hW : W1 = X ++ cs) (hc : inPl L f cs) (hD0 : va_D A W0) (ha : W0.map Prod.fst = (X ++ va_pl L f).map Prod.fst) : va_P D cl (X ++ va_pl L f) H ∧ va_D A (X ++ va_pl L f) := by
  subst hT
  subst hW
  exact ⟨pl_back hP hc, vaD_ad ha hD0⟩

theorem pl_oT {D : va_G} {cl : List vw_C} {A : Nat → Prop} {X cs : va_W} {L : List Nat} {f : Nat → va_E} {H : Heap} (hP : va_P D cl (X ++ va_pl L f) H) (hD : va_D A (X ++ va_pl L f)) (hc : inPl L f cs) (hn : cs.Pairwise (fun p q => p.1 ≠ q.1)) : ∃ T, outPl L cs = T ∧ va_P D cl ((X ++ cs) ++ va_pl T f) H ∧ va_D A ((X ++ cs) ++ va_pl T f) := ⟨_, rfl, pl_out hP hD cs hc hn⟩
end
