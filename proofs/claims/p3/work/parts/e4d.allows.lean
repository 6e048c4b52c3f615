section
set_option maxHeartbeats 4000000 in
set_option maxRecDepth 100000 in
theorem k_Law_allows_b (l : Launch) (dC : Nat → ClassId) (dI : Nat → Nat → Nat) (cI cZ cF : ClassId) (sz : Nat) (lw : Nat) (dr : Nat) (tg : Nat) (wy : Nat) (br : Nat) (bo : Nat) (aa : Nat) (tx : Nat) (ty : Nat) (nt : Nat) (TX : Nat → Int32) (TY : Nat → Int32) (rt : Int32) (wx : Nat) (wz : Nat) (nw : Nat) (WX : Nat → Int32) (WY : Nat → Int32) (rw : Int32) (dx : Nat) (dy : Nat) (nd : Nat) (cd : Nat) (P : Nat → Int32) (Q : Nat → Int32) (rd : Int32) (b1 : Int32) (b2 : Int32) (b3 : Int32) (b4 : Int32) (b5 : Int32) (b6 : Int32) (b7 : Int32) (b8 : Int32) (sh : Nat) (fa : Nat) (ft : Nat) (FA : Nat → Option Nat) (fe : Nat) (lo : Nat) (rk9 : Int32) (wd9 : Int32) (tw9 : Int32) (pa9 : Int32) (pb9 : Int32) (lk : Nat) (kd9 : Int32) (st9 : Int32) (gb9 : Int32) (jt9 : Int32) (we9 : Int32) (r : Nat) (rx : Nat) (ry : Nat) (n : Nat) (cap : Nat) (X : Nat → Int32) (Y : Nat → Int32) (rg : Int32) (f0 : Nat) (fm9 : Value) (L : List Nat) (f : Nat → va_E) (kd : Nat → Int32) (st : Nat → Int32) (tn : Nat → Int32) (mn : Nat → Int32) (cx : Nat → Int32) (cy : Nat → Int32) (h200 : ft ≤ 200) (hf0 : f0 < ft) (hFA : FA f0 = some fe) (hs1 : st9.toInt = 1) (hvw : ∀ q, q < ft → q ≠ f0 → vwO cI L f FA kd st tn mn cx cy q) (hwf : ∀ q, lvF ft st tn q → wfM mn cx cy q) (hkn : okN ft st tn kd mn) (hnd : nd ≤ cd) (hcd : cd ≤ 1000) (hn : n ≤ cap) (hcap : cap ≤ 1000) (hp : pls n X Y) (h1n : 1 ≤ n) (h1d : 1 ≤ nd) (hn1 : ¬ n = 1) : Met l yX4_allows (.code yX4_allows cX4_allows 9 (some .boolean) :: ws0) ({ frames := 4, cells := 0, slots := 0, locals := 88 } : Room) (va_Pc [.ref lw, .ref sh, .ref fe, .int (-2)] (zPre (dC, dI) classes (zTy cI cZ cF) ([(oc3 lw (.ref dr) (.ref tg) (.ref wy) (.ref br) (.ref bo) (.ref aa)), (oc6 tg (.ref tx) (.ref ty) (nI nt) rt), (oa tx cI 3 TX), (oa ty cI 3 TY), (oc6 wy (.ref wx) (.ref wz) (nI nw) rw), (oa wx cI 2 WX), (oa wz cI 2 WY), (oc6 dr (.ref dx) (.ref dy) (nI nd) rd), (oa dx cI cd P), (oa dy cI cd Q), (oc0 br b1 b2 b3 b4), (oc0 bo b5 b6 b7 b8), (oc7 sh (.ref fa) (nI ft)), (oq fa cF 200 FA), (oc1 fe rk9 wd9 tw9 pa9 pb9 (.ref lo) (.ref lk) fm9), (oc4 lk kd9 st9 (.ref r) gb9 jt9 we9), (oc6 r (.ref rx) (.ref ry) (nI n) rg), (oa rx cI cap X), (oa ry cI cap Y)] ++ va_pl L f) sz zXN)) (zQ (some (.int (pI (pls nd P Q ∧ ((∀ i, i < edg nd rd → eFr nd P Q rd i (i + 1)) ∧ (¬ (6 : Int32).toInt = 6 ∨ ∀ k, k < nd → eRt nd P Q k)) ∧ ∀ q, q < ft → (q ≠ f0 → lvF ft st tn q → (apB (mnI (mnI (X 0).toInt X n) P nd) (mnI (mnI (Y 0).toInt Y n) Q nd) (mxI (mxI (X 0).toInt X n) P nd) (mxI (mxI (Y 0).toInt Y n) Q nd) (nN (mn q)) (cF40 cx q) (cF40 cy q) ∨ (asb n X Y rg nd P Q rd (nN (mn q)) (cF40 cx q) (cF40 cy q) (rgK (kd q).toInt)))))))) (fun t => ∃ (nt1 : Nat), ∃ (TX1 : Nat → Int32), ∃ (TY1 : Nat → Int32), ∃ (rt1 : Int32), ∃ (nw1 : Nat), ∃ (WX1 : Nat → Int32), ∃ (WY1 : Nat → Int32), ∃ (rw1 : Int32), ∃ (d5 : Int32), ∃ (d6 : Int32), ∃ (d7 : Int32), ∃ (d8 : Int32), ∃ (e5 : Int32), ∃ (e6 : Int32), ∃ (e7 : Int32), ∃ (e8 : Int32), va_P (dC, dI) classes ([(oc3 lw (.ref dr) (.ref tg) (.ref wy) (.ref br) (.ref bo) (.ref aa)), (oc6 tg (.ref tx) (.ref ty) (nI nt1) rt1), (oa tx cI 3 TX1), (oa ty cI 3 TY1), (oc6 wy (.ref wx) (.ref wz) (nI nw1) rw1), (oa wx cI 2 WX1), (oa wz cI 2 WY1), (oc6 dr (.ref dx) (.ref dy) (nI nd) rd), (oa dx cI cd P), (oa dy cI cd Q), (oc0 br d5 d6 d7 d8), (oc0 bo e5 e6 e7 e8), (oc7 sh (.ref fa) (nI ft)), (oq fa cF 200 FA), (oc1 fe rk9 wd9 tw9 pa9 pb9 (.ref lo) (.ref lk) fm9), (oc4 lk kd9 st9 (.ref r) gb9 jt9 we9), (oc6 r (.ref rx) (.ref ry) (nI n) rg), (oa rx cI cap X), (oa ry cI cap Y)] ++ va_pl L f) t.heap ∧ va_D (va_A ([(oc3 lw (.ref dr) (.ref tg) (.ref wy) (.ref br) (.ref bo) (.ref aa)), (oc6 tg (.ref tx) (.ref ty) (nI nt) rt), (oa tx cI 3 TX), (oa ty cI 3 TY), (oc6 wy (.ref wx) (.ref wz) (nI nw) rw), (oa wx cI 2 WX), (oa wz cI 2 WY), (oc6 dr (.ref dx) (.ref dy) (nI nd) rd), (oa dx cI cd P), (oa dy cI cd Q), (oc0 br b1 b2 b3 b4), (oc0 bo b5 b6 b7 b8), (oc7 sh (.ref fa) (nI ft)), (oq fa cF 200 FA), (oc1 fe rk9 wd9 tw9 pa9 pb9 (.ref lo) (.ref lk) fm9), (oc4 lk kd9 st9 (.ref r) gb9 jt9 we9), (oc6 r (.ref rx) (.ref ry) (nI n) rg), (oa rx cI cap X), (oa ry cI cap Y)] ++ va_pl L f) sz) ([(oc3 lw (.ref dr) (.ref tg) (.ref wy) (.ref br) (.ref bo) (.ref aa)), (oc6 tg (.ref tx) (.ref ty) (nI nt1) rt1), (oa tx cI 3 TX1), (oa ty cI 3 TY1), (oc6 wy (.ref wx) (.ref wz) (nI nw1) rw1), (oa wx cI 2 WX1), (oa wz cI 2 WY1), (oc6 dr (.ref dx) (.ref dy) (nI nd) rd), (oa dx cI cd P), (oa dy cI cd Q), (oc0 br d5 d6 d7 d8), (oc0 bo e5 e6 e7 e8), (oc7 sh (.ref fa) (nI ft)), (oq fa cF 200 FA), (oc1 fe rk9 wd9 tw9 pa9 pb9 (.ref lo) (.ref lk) fm9), (oc4 lk kd9 st9 (.ref r) gb9 jt9 we9), (oc6 r (.ref rx) (.ref ry) (nI n) rg), (oa rx cI cap X), (oa ry cI cap Y)] ++ va_pl L f)) (va_A ([(oc3 lw (.ref dr) (.ref tg) (.ref wy) (.ref br) (.ref bo) (.ref aa)), (oc6 tg (.ref tx) (.ref ty) (nI nt) rt), (oa tx cI 3 TX), (oa ty cI 3 TY), (oc6 wy (.ref wx) (.ref wz) (nI nw) rw), (oa wx cI 2 WX), (oa wz cI 2 WY), (oc6 dr (.ref dx) (.ref dy) (nI nd) rd), (oa dx cI cd P), (oa dy cI cd Q), (oc0 br b1 b2 b3 b4), (oc0 bo b5 b6 b7 b8), (oc7 sh (.ref fa) (nI ft)), (oq fa cF 200 FA), (oc1 fe rk9 wd9 tw9 pa9 pb9 (.ref lo) (.ref lk) fm9), (oc4 lk kd9 st9 (.ref r) gb9 jt9 we9), (oc6 r (.ref rx) (.ref ry) (nI n) rg), (oa rx cI cap X), (oa ry cI cap Y)] ++ va_pl L f) sz)) 0 0 (va_A ([(oc3 lw (.ref dr) (.ref tg) (.ref wy) (.ref br) (.ref bo) (.ref aa)), (oc6 tg (.ref tx) (.ref ty) (nI nt) rt), (oa tx cI 3 TX), (oa ty cI 3 TY), (oc6 wy (.ref wx) (.ref wz) (nI nw) rw), (oa wx cI 2 WX), (oa wz cI 2 WY), (oc6 dr (.ref dx) (.ref dy) (nI nd) rd), (oa dx cI cd P), (oa dy cI cd Q), (oc0 br b1 b2 b3 b4), (oc0 bo b5 b6 b7 b8), (oc7 sh (.ref fa) (nI ft)), (oq fa cF 200 FA), (oc1 fe rk9 wd9 tw9 pa9 pb9 (.ref lo) (.ref lk) fm9), (oc4 lk kd9 st9 (.ref r) gb9 jt9 we9), (oc6 r (.ref rx) (.ref ry) (nI n) rg), (oa rx cI cap X), (oa ry cI cap Y)] ++ va_pl L f) sz) := by
  refine Met.ofW (cc := cX4_allows) (maxL := 9) (ret := (some .boolean)) rfl rfl ?_
  intro p e s m args below meth c s₁ B hml hv
  obtain ⟨rfl, hsz, hP, hK, hD0, hXN⟩ := hv
  have hx := B.exec
  have hb := B.bytes
  have hr := B.returns
  have hts0 := atoms_spec (ws := .code yX4_allows cX4_allows 9 (some .boolean) :: ws0) B.pre
  have hts : ∀ w9 ∈ ws0, w9.before ([.ref lw, .ref sh, .ref fe, .int (-2)] : List Value).toArray s = true := fun w9 h => hts0 w9 (List.mem_cons_of_mem _ h)
  have hown : s.vm.findClass "ScaleShop$Law" = some m.cls := findClass_of_methodNamed B.named
  have hlocks := B.notSynchronized
  subst hsz
  have hD := hD0.self (sz := s.heap.size)
  clear hD0
  generalize hAe : va_A ([(oc3 lw (.ref dr) (.ref tg) (.ref wy) (.ref br) (.ref bo) (.ref aa)), (oc6 tg (.ref tx) (.ref ty) (nI nt) rt), (oa tx cI 3 TX), (oa ty cI 3 TY), (oc6 wy (.ref wx) (.ref wz) (nI nw) rw), (oa wx cI 2 WX), (oa wz cI 2 WY), (oc6 dr (.ref dx) (.ref dy) (nI nd) rd), (oa dx cI cd P), (oa dy cI cd Q), (oc0 br b1 b2 b3 b4), (oc0 bo b5 b6 b7 b8), (oc7 sh (.ref fa) (nI ft)), (oq fa cF 200 FA), (oc1 fe rk9 wd9 tw9 pa9 pb9 (.ref lo) (.ref lk) fm9), (oc4 lk kd9 st9 (.ref r) gb9 jt9 we9), (oc6 r (.ref rx) (.ref ry) (nI n) rg), (oa rx cI cap X), (oa ry cI cap Y)] ++ va_pl L f) s.heap.size = A at hD ⊢
  have hA : ∀ q : Nat, s.heap.size ≤ q → A q := fun q h => by rw [← hAe]; exact Or.inr h
  clear hAe
  have hS : va_S A s.heap s.heap [] := va_S.rf
  have hP : va_P (dC, dI) classes ([(oc3 lw (.ref dr) (.ref tg) (.ref wy) (.ref br) (.ref bo) (.ref aa)), (oc6 tg (.ref tx) (.ref ty) (nI nt) rt), (oa tx cI 3 TX), (oa ty cI 3 TY), (oc6 wy (.ref wx) (.ref wz) (nI nw) rw), (oa wx cI 2 WX), (oa wz cI 2 WY), (oc6 dr (.ref dx) (.ref dy) (nI nd) rd), (oa dx cI cd P), (oa dy cI cd Q), (oc0 br b1 b2 b3 b4), (oc0 bo b5 b6 b7 b8), (oc7 sh (.ref fa) (nI ft)), (oq fa cF 200 FA), (oc1 fe rk9 wd9 tw9 pa9 pb9 (.ref lo) (.ref lk) fm9), (oc4 lk kd9 st9 (.ref r) gb9 jt9 we9), (oc6 r (.ref rx) (.ref ry) (nI n) rg), (oa rx cI cap X), (oa ry cI cap Y)] ++ va_pl L f) s.heap := hP
  obtain ⟨Q9, hQ9⟩ : ∃ Q9 : State → Prop, Q9 = MQ below (zQ (some (.int (pI (pls nd P Q ∧ ((∀ i, i < edg nd rd → eFr nd P Q rd i (i + 1)) ∧ (¬ (6 : Int32).toInt = 6 ∨ ∀ k, k < nd → eRt nd P Q k)) ∧ ∀ q, q < ft → (q ≠ f0 → lvF ft st tn q → (apB (mnI (mnI (X 0).toInt X n) P nd) (mnI (mnI (Y 0).toInt Y n) Q nd) (mxI (mxI (X 0).toInt X n) P nd) (mxI (mxI (Y 0).toInt Y n) Q nd) (nN (mn q)) (cF40 cx q) (cF40 cy q) ∨ (asb n X Y rg nd P Q rd (nN (mn q)) (cF40 cx q) (cF40 cy q) (rgK (kd q).toInt)))))))) (fun t => ∃ (nt1 : Nat), ∃ (TX1 : Nat → Int32), ∃ (TY1 : Nat → Int32), ∃ (rt1 : Int32), ∃ (nw1 : Nat), ∃ (WX1 : Nat → Int32), ∃ (WY1 : Nat → Int32), ∃ (rw1 : Int32), ∃ (d5 : Int32), ∃ (d6 : Int32), ∃ (d7 : Int32), ∃ (d8 : Int32), ∃ (e5 : Int32), ∃ (e6 : Int32), ∃ (e7 : Int32), ∃ (e8 : Int32), va_P (dC, dI) classes ([(oc3 lw (.ref dr) (.ref tg) (.ref wy) (.ref br) (.ref bo) (.ref aa)), (oc6 tg (.ref tx) (.ref ty) (nI nt1) rt1), (oa tx cI 3 TX1), (oa ty cI 3 TY1), (oc6 wy (.ref wx) (.ref wz) (nI nw1) rw1), (oa wx cI 2 WX1), (oa wz cI 2 WY1), (oc6 dr (.ref dx) (.ref dy) (nI nd) rd), (oa dx cI cd P), (oa dy cI cd Q), (oc0 br d5 d6 d7 d8), (oc0 bo e5 e6 e7 e8), (oc7 sh (.ref fa) (nI ft)), (oq fa cF 200 FA), (oc1 fe rk9 wd9 tw9 pa9 pb9 (.ref lo) (.ref lk) fm9), (oc4 lk kd9 st9 (.ref r) gb9 jt9 we9), (oc6 r (.ref rx) (.ref ry) (nI n) rg), (oa rx cI cap X), (oa ry cI cap Y)] ++ va_pl L f) t.heap ∧ va_D A ([(oc3 lw (.ref dr) (.ref tg) (.ref wy) (.ref br) (.ref bo) (.ref aa)), (oc6 tg (.ref tx) (.ref ty) (nI nt1) rt1), (oa tx cI 3 TX1), (oa ty cI 3 TY1), (oc6 wy (.ref wx) (.ref wz) (nI nw1) rw1), (oa wx cI 2 WX1), (oa wz cI 2 WY1), (oc6 dr (.ref dx) (.ref dy) (nI nd) rd), (oa dx cI cd P), (oa dy cI cd Q), (oc0 br d5 d6 d7 d8), (oc0 bo e5 e6 e7 e8), (oc7 sh (.ref fa) (nI ft)), (oq fa cF 200 FA), (oc1 fe rk9 wd9 tw9 pa9 pb9 (.ref lo) (.ref lk) fm9), (oc4 lk kd9 st9 (.ref r) gb9 jt9 we9), (oc6 r (.ref rx) (.ref ry) (nI n) rg), (oa rx cI cap X), (oa ry cI cap Y)] ++ va_pl L f)) A) ([.ref lw, .ref sh, .ref fe, .int (-2)] : List Value).toArray s 0 0 A := ⟨_, rfl⟩
  rw [← hQ9]
  have hl := lv_entry ([.ref lw, .ref sh, .ref fe, .int (-2)]) (n := 9) (Nat.le_of_ble_eq_true rfl)
  rw [lg_entry_eq]
  generalize (lg_sl ([.ref lw, .ref sh, .ref fe, .int (-2)]) ++ List.replicate (9 - (lg_sl ([.ref lw, .ref sh, .ref fe, .int (-2)])).length) Slot.unset).toArray = ls at hl ⊢
  have hl : lv_has ls 9 [(0, .ref lw), (1, .ref sh), (2, .ref fe), (3, .int (-2))] := hl
  refine lv_aload_n hx hb dX4_allows_0 rfl (lv_at hl 2 rfl) ?_
  refine va_get (D := (dC, dI)) (ci := 1) (v := .ref lk) (C := RX2) (T := TX2) (N := 8) hx hb hts inX2 hown hK hP 14 rfl rfl 6 (Nat.le_of_ble_eq_true rfl) (hts _ mw_430) (fun _ h9 => h9) rfl dX4_allows_1 ?_
  refine va_get (D := (dC, dI)) (ci := 4) (v := .ref r) (C := RX5) (T := TX5) (N := 6) hx hb hts inX5 hown hK hP 15 rfl rfl 2 (Nat.le_of_ble_eq_true rfl) (hts _ mw_389) (fun _ h9 => h9) rfl dX4_allows_4 ?_
  refine lv_astore (lv' := [(4, .ref r), (0, .ref lw), (1, .ref sh), (2, .ref fe), (3, .int (-2))]) hx hb dX4_allows_7 hl (Nat.le_of_ble_eq_true rfl) rfl (fun ls hl => ?_)
  refine lv_aload hx hb dX4_allows_9 (lv_at hl 0 rfl) ?_
  refine lv_ifnull hx hb dX4_allows_11 ?_
  refine lv_aload_n hx hb dX4_allows_14 rfl (lv_at hl 1 rfl) ?_
  refine va_get (D := (dC, dI)) (ci := 3) (v := .ref dr) (C := RX4) (T := TX4) (N := 6) hx hb hts inX4 hown hK hP 0 rfl rfl 0 (Nat.le_of_ble_eq_true rfl) (hts _ mw_219) (fun _ h9 => h9) rfl dX4_allows_15 ?_
  obtain ⟨hPc, hDc, hFc⟩ := zc_sub (wc := [(oc6 dr (.ref dx) (.ref dy) (nI nd) rd), (oa dx cI cd P), (oa dy cI cd Q)]) hP hD hS hA [7, 8, 9] rfl rfl
  refine zcall (st1 := [.int (pI (pls nd P Q))]) (va_runV (As := []) (rest := []) ⟨hx, hb, hml, hown, hts⟩ (k_Row_arePlaces l dC dI cI cZ cF s.heap.size dr dx dy nd cd P Q rd (by first | with_reducible assumption | omega) (by first | with_reducible assumption | omega)) (csV_65 hts rfl rfl ⟨Nat.le_of_ble_eq_true rfl, Nat.le_of_ble_eq_true rfl⟩) (zPV2 (q0 := 0) (ci := 6) hPc hDc hK hXN rfl rfl) rfl rfl hl.1 rfl (lv_room (Nat.le_of_ble_eq_true rfl)) dX4_allows_18 ⟨Nat.le_of_ble_eq_true rfl, Nat.le_of_ble_eq_true rfl⟩) hS hFc hFc rfl (fun t H locs ht hB hk1 hS => ?_)
  obtain ⟨hP1, hD1⟩ := hB
  rw [ht] at hP1
  obtain ⟨hP, hD⟩ := zkQ (W2 := [(oc3 lw (.ref dr) (.ref tg) (.ref wy) (.ref br) (.ref bo) (.ref aa)), (oc6 tg (.ref tx) (.ref ty) (nI nt) rt), (oa tx cI 3 TX), (oa ty cI 3 TY), (oc6 wy (.ref wx) (.ref wz) (nI nw) rw), (oa wx cI 2 WX), (oa wz cI 2 WY), (oc6 dr (.ref dx) (.ref dy) (nI nd) rd), (oa dx cI cd P), (oa dy cI cd Q), (oc0 br b1 b2 b3 b4), (oc0 bo b5 b6 b7 b8), (oc7 sh (.ref fa) (nI ft)), (oq fa cF 200 FA), (oc1 fe rk9 wd9 tw9 pa9 pb9 (.ref lo) (.ref lk) fm9), (oc4 lk kd9 st9 (.ref r) gb9 jt9 we9), (oc6 r (.ref rx) (.ref ry) (nI n) rg), (oa rx cI cap X), (oa ry cI cap Y)]) hP hD [7, 8, 9] [0, 1, 2, 3, 4, 5, 6, 10, 11, 12, 13, 14, 15, 16, 17, 18] [0, 1, 2, 3, 4, 5, 6, 10, 11, 12, 13, 14, 15, 16, 17, 18] [7, 8, 9] [0, 1, 2, 3, 4, 5, 6, 16, 17, 18, 7, 8, 9, 10, 11, 12, 13, 14, 15] 19 rfl rfl rfl rfl rfl rfl rfl rfl rfl hk1 hFc hP1 hD1
  clear hk1 hPc hDc hFc hP1 hD1 ht
  refine lv_if_ne (tgt := 26) hx hb dX4_allows_21 rfl (fun c_1 => ?_) (fun c_1 => ?_)
  · have c_1 : pls nd P Q := zp_1 c_1
    refine lv_aload_n hx hb dX4_allows_26 rfl (lv_at hl 1 rfl) ?_
    refine va_get (D := (dC, dI)) (ci := 3) (v := .ref dr) (C := RX4) (T := TX4) (N := 6) hx hb hts inX4 hown hK hP 0 rfl rfl 0 (Nat.le_of_ble_eq_true rfl) (hts _ mw_219) (fun _ h9 => h9) rfl dX4_allows_27 ?_
    refine lv_iload_n hx hb dX4_allows_30 rfl (lv_at hl 4 rfl) ?_
    refine lv_aload_n hx hb dX4_allows_31 rfl (lv_at hl 1 rfl) ?_
    refine va_get (D := (dC, dI)) (ci := 3) (v := .ref dr) (C := RX4) (T := TX4) (N := 6) hx hb hts inX4 hown hK hP 0 rfl rfl 0 (Nat.le_of_ble_eq_true rfl) (hts _ mw_219) (fun _ h9 => h9) rfl dX4_allows_32 ?_
    refine va_get (D := (dC, dI)) (ci := 6) (v := .int (nI nd)) (C := RX7) (T := TX7) (N := 4) hx hb hts inX7 hown hK hP 7 rfl rfl 2 (Nat.le_of_ble_eq_true rfl) (hts _ mw_176) (fun _ h9 => h9) rfl dX4_allows_35 ?_
    have b9_3 : nd < 2147483648 := by omega
    refine lv_icmp_ge (tgt := 45) hx hb dX4_allows_38 rfl (fun c_2 => ?_) (fun c_2 => ?_)
    · have c_2 : ((nd : Nat) : Int) ≤ (-2) := zc_le (nI_toInt b9_3) rfl c_2
      exfalso; omega
    · have c_2 : (-2) < ((nd : Nat) : Int) := zc_nle (nI_toInt b9_3) rfl c_2
      refine lv_iload_n hx hb dX4_allows_41 rfl (lv_at hl 4 rfl) ?_
      refine lv_goto (tgt := 46) hx hb dX4_allows_42 rfl ?_
      obtain ⟨hPc, hDc, hFc⟩ := zc_sub (wc := [(oc6 dr (.ref dx) (.ref dy) (nI nd) rd), (oa dx cI cd P), (oa dy cI cd Q)]) hP hD hS hA [7, 8, 9] rfl rfl
      refine zcall (st1 := [.int (nI (nd - 1))]) (va_runV (As := [.int (-2)]) (rest := []) ⟨hx, hb, hml, hown, hts⟩ (k_Row_previous_2 l dC dI cI cZ cF H.size dr dx dy nd cd P Q rd (by first | with_reducible assumption | omega) (by first | with_reducible assumption | omega) (by first | with_reducible assumption | omega)) (csV_48 hts rfl rfl ⟨Nat.le_of_ble_eq_true rfl, Nat.le_of_ble_eq_true rfl⟩) (zPV2 (q0 := 0) (ci := 6) hPc hDc hK hXN rfl rfl) rfl rfl hl.1 rfl (lv_room (Nat.le_of_ble_eq_true rfl)) dX4_allows_46 ⟨Nat.le_of_ble_eq_true rfl, Nat.le_of_ble_eq_true rfl⟩) hS hFc hFc rfl (fun t H locs ht hB hk1 hS => ?_)
      obtain ⟨hP1, hD1⟩ := hB
      rw [ht] at hP1
      obtain ⟨hP, hD⟩ := zkQ (W2 := [(oc3 lw (.ref dr) (.ref tg) (.ref wy) (.ref br) (.ref bo) (.ref aa)), (oc6 tg (.ref tx) (.ref ty) (nI nt) rt), (oa tx cI 3 TX), (oa ty cI 3 TY), (oc6 wy (.ref wx) (.ref wz) (nI nw) rw), (oa wx cI 2 WX), (oa wz cI 2 WY), (oc6 dr (.ref dx) (.ref dy) (nI nd) rd), (oa dx cI cd P), (oa dy cI cd Q), (oc0 br b1 b2 b3 b4), (oc0 bo b5 b6 b7 b8), (oc7 sh (.ref fa) (nI ft)), (oq fa cF 200 FA), (oc1 fe rk9 wd9 tw9 pa9 pb9 (.ref lo) (.ref lk) fm9), (oc4 lk kd9 st9 (.ref r) gb9 jt9 we9), (oc6 r (.ref rx) (.ref ry) (nI n) rg), (oa rx cI cap X), (oa ry cI cap Y)]) hP hD [7, 8, 9] [0, 1, 2, 3, 4, 5, 6, 10, 11, 12, 13, 14, 15, 16, 17, 18] [0, 1, 2, 3, 4, 5, 6, 10, 11, 12, 13, 14, 15, 16, 17, 18] [7, 8, 9] [0, 1, 2, 3, 4, 5, 6, 16, 17, 18, 7, 8, 9, 10, 11, 12, 13, 14, 15] 19 rfl rfl rfl rfl rfl rfl rfl rfl rfl hk1 hFc hP1 hD1
      clear hk1 hPc hDc hFc hP1 hD1 ht
      refine lv_istore (lv' := [(5, .int (nI (nd - 1))), (4, .ref r), (0, .ref lw), (1, .ref sh), (2, .ref fe), (3, .int (-2))]) hx hb dX4_allows_49 hl (Nat.le_of_ble_eq_true rfl) rfl (fun ls hl => ?_)
      refine lv_iload_n hx hb dX4_allows_51 rfl (lv_at hl 5 rfl) ?_
      refine lv_bipush (v := (-2)) hx hb dX4_allows_52 rfl ?_
      refine lv_icmp_ne (tgt := 62) hx hb dX4_allows_54 rfl (fun c_4 => ?_) (fun c_4 => ?_)
      · exact absurd (by decide) c_4
      · refine lv_bipush (v := 6) hx hb dX4_allows_57 rfl ?_
        refine lv_goto (tgt := 69) hx hb dX4_allows_59 rfl ?_
        refine lv_istore (lv' := [(6, .int 6), (5, .int (nI (nd - 1))), (4, .ref r), (0, .ref lw), (1, .ref sh), (2, .ref fe), (3, .int (-2))]) hx hb dX4_allows_69 hl (Nat.le_of_ble_eq_true rfl) rfl (fun ls hl => ?_)
        refine lv_iload_n hx hb dX4_allows_71 rfl (lv_at hl 6 rfl) ?_
        refine lv_if_lt (tgt := 91) hx hb dX4_allows_72 rfl (fun c_5 => ?_) (fun c_5 => ?_)
        · refine lv_aload_n hx hb dX4_allows_91 rfl (lv_at hl 3 rfl) ?_
          refine va_get (D := (dC, dI)) (ci := 3) (v := .ref dr) (C := RX4) (T := TX4) (N := 6) hx hb hts inX4 hown hK hP 0 rfl rfl 0 (Nat.le_of_ble_eq_true rfl) (hts _ mw_219) (fun _ h9 => h9) rfl dX4_allows_92 ?_
          refine lv_iload hx hb dX4_allows_95 (lv_at hl 0 rfl) ?_
          obtain ⟨hPc, hDc, hFc⟩ := zc_sub (wc := [(oc6 dr (.ref dx) (.ref dy) (nI nd) rd), (oa dx cI cd P), (oa dy cI cd Q)]) hP hD hS hA [7, 8, 9] rfl rfl
          refine zcall (st1 := [.int (pI ((∀ i, i < edg nd rd → eFr nd P Q rd i (i + 1)) ∧ (¬ (6 : Int32).toInt = 6 ∨ ∀ k, k < nd → eRt nd P Q k)))]) (va_runV (As := [.int 6]) (rest := []) ⟨hx, hb, hml, hown, hts⟩ (k_Row_isSound l dC dI cI cZ cF H.size dr dx dy nd cd P Q rd 6 (by first | with_reducible assumption | omega) (by first | with_reducible assumption | omega) (by first | with_reducible assumption | assumption)) (csV_70 hts rfl rfl ⟨Nat.le_of_ble_eq_true rfl, Nat.le_of_ble_eq_true rfl⟩) (zPV2 (q0 := 0) (ci := 6) hPc hDc hK hXN rfl rfl) rfl rfl hl.1 rfl (lv_room (Nat.le_of_ble_eq_true rfl)) dX4_allows_97 ⟨Nat.le_of_ble_eq_true rfl, Nat.le_of_ble_eq_true rfl⟩) hS hFc hFc rfl (fun t H locs ht hB hk1 hS => ?_)
          obtain ⟨hP1, hD1⟩ := hB
          rw [ht] at hP1
          obtain ⟨hP, hD⟩ := zkQ (W2 := [(oc3 lw (.ref dr) (.ref tg) (.ref wy) (.ref br) (.ref bo) (.ref aa)), (oc6 tg (.ref tx) (.ref ty) (nI nt) rt), (oa tx cI 3 TX), (oa ty cI 3 TY), (oc6 wy (.ref wx) (.ref wz) (nI nw) rw), (oa wx cI 2 WX), (oa wz cI 2 WY), (oc6 dr (.ref dx) (.ref dy) (nI nd) rd), (oa dx cI cd P), (oa dy cI cd Q), (oc0 br b1 b2 b3 b4), (oc0 bo b5 b6 b7 b8), (oc7 sh (.ref fa) (nI ft)), (oq fa cF 200 FA), (oc1 fe rk9 wd9 tw9 pa9 pb9 (.ref lo) (.ref lk) fm9), (oc4 lk kd9 st9 (.ref r) gb9 jt9 we9), (oc6 r (.ref rx) (.ref ry) (nI n) rg), (oa rx cI cap X), (oa ry cI cap Y)]) hP hD [7, 8, 9] [0, 1, 2, 3, 4, 5, 6, 10, 11, 12, 13, 14, 15, 16, 17, 18] [0, 1, 2, 3, 4, 5, 6, 10, 11, 12, 13, 14, 15, 16, 17, 18] [7, 8, 9] [0, 1, 2, 3, 4, 5, 6, 16, 17, 18, 7, 8, 9, 10, 11, 12, 13, 14, 15] 19 rfl rfl rfl rfl rfl rfl rfl rfl rfl hk1 hFc hP1 hD1
          clear hk1 hPc hDc hFc hP1 hD1 ht
          refine lv_if_ne (tgt := 105) hx hb dX4_allows_100 rfl (fun c_6 => ?_) (fun c_6 => ?_)
          · have c_6 : (∀ i, i < edg nd rd → eFr nd P Q rd i (i + 1)) ∧ (¬ (6 : Int32).toInt = 6 ∨ ∀ k, k < nd → eRt nd P Q k) := zp_1 c_6
            refine lv_aload_n hx hb dX4_allows_105 rfl (lv_at hl 3 rfl) ?_
            refine lv_aload hx hb dX4_allows_106 (lv_at hl 2 rfl) ?_
            refine lv_iload_n hx hb dX4_allows_108 rfl (lv_at hl 6 rfl) ?_
            obtain ⟨hPc, hDc, hFc⟩ := zc_sub (wc := [(oc3 lw (.ref dr) (.ref tg) (.ref wy) (.ref br) (.ref bo) (.ref aa)), (oc0 br b1 b2 b3 b4), (oc6 dr (.ref dx) (.ref dy) (nI nd) rd), (oa dx cI cd P), (oa dy cI cd Q), (oc6 r (.ref rx) (.ref ry) (nI n) rg), (oa rx cI cap X), (oa ry cI cap Y)]) hP hD hS hA [0, 10, 7, 8, 9, 16, 17, 18] rfl rfl
            refine zcall (st1 := []) (va_runV (As := [.ref r, .int (-2)]) (rest := []) ⟨hx, hb, hml, hown, hts⟩ (k_Law_measureReach_2 l dC dI cI cZ cF H.size lw dr tg wy br bo aa b1 b2 b3 b4 dx dy nd cd P Q rd r rx ry n cap X Y rg (by first | with_reducible assumption | omega) (by first | with_reducible assumption | omega) (by first | with_reducible assumption | assumption) (by first | with_reducible assumption | omega) (by first | with_reducible assumption | omega) (by first | with_reducible assumption | assumption) (by first | with_reducible assumption | omega)) (csV_67 hts rfl rfl ⟨Nat.le_of_ble_eq_true rfl, Nat.le_of_ble_eq_true rfl⟩) (zPV2 (q0 := 0) (ci := 3) hPc hDc hK hXN rfl rfl) rfl rfl hl.1 rfl (lv_room (Nat.le_of_ble_eq_true rfl)) dX4_allows_109 ⟨Nat.le_of_ble_eq_true rfl, Nat.le_of_ble_eq_true rfl⟩) hS hFc hFc rfl (fun t H locs ht hB hk1 hS => ?_)
            obtain ⟨hP1, hD1⟩ := hB
            rw [ht] at hP1
            obtain ⟨hP, hD⟩ := zkQ (W2 := [(oc3 lw (.ref dr) (.ref tg) (.ref wy) (.ref br) (.ref bo) (.ref aa)), (oc6 tg (.ref tx) (.ref ty) (nI nt) rt), (oa tx cI 3 TX), (oa ty cI 3 TY), (oc6 wy (.ref wx) (.ref wz) (nI nw) rw), (oa wx cI 2 WX), (oa wz cI 2 WY), (oc6 dr (.ref dx) (.ref dy) (nI nd) rd), (oa dx cI cd P), (oa dy cI cd Q), (oc0 br (iI (mnI (mnI (X 0).toInt X n) P nd)) (iI (mnI (mnI (Y 0).toInt Y n) Q nd)) (iI (mxI (mxI (X 0).toInt X n) P nd)) (iI (mxI (mxI (Y 0).toInt Y n) Q nd))), (oc0 bo b5 b6 b7 b8), (oc7 sh (.ref fa) (nI ft)), (oq fa cF 200 FA), (oc1 fe rk9 wd9 tw9 pa9 pb9 (.ref lo) (.ref lk) fm9), (oc4 lk kd9 st9 (.ref r) gb9 jt9 we9), (oc6 r (.ref rx) (.ref ry) (nI n) rg), (oa rx cI cap X), (oa ry cI cap Y)]) hP hD [0, 10, 7, 8, 9, 16, 17, 18] [1, 2, 3, 4, 5, 6, 11, 12, 13, 14, 15] [1, 2, 3, 4, 5, 6, 11, 12, 13, 14, 15] [0, 10, 7, 8, 9, 16, 17, 18] [11, 0, 1, 2, 3, 4, 5, 13, 14, 15, 12, 6, 7, 8, 9, 10, 16, 17, 18] 19 rfl rfl rfl rfl rfl rfl rfl rfl rfl hk1 hFc hP1 hD1
            clear hk1 hPc hDc hFc hP1 hD1 ht
            have hpd : pls nd P Q := (by first | with_reducible assumption | assumption)
            have hbr : nr (mnI (mnI (X 0).toInt X n) P nd) ∧ nr (mnI (mnI (Y 0).toInt Y n) Q nd) ∧ nr (mxI (mxI (X 0).toInt X n) P nd) ∧ nr (mxI (mxI (Y 0).toInt Y n) Q nd) := ⟨mnB (mnB ((pls_nr hp).1 0 (by omega)) (pls_nr hp).1 n (Nat.le_refl _)) (pls_nr hpd).1 nd (Nat.le_refl _), mnB (mnB ((pls_nr hp).2 0 (by omega)) (pls_nr hp).2 n (Nat.le_refl _)) (pls_nr hpd).2 nd (Nat.le_refl _), mxB (mxB ((pls_nr hp).1 0 (by omega)) (pls_nr hp).1 n (Nat.le_refl _)) (pls_nr hpd).1 nd (Nat.le_refl _), mxB (mxB ((pls_nr hp).2 0 (by omega)) (pls_nr hp).2 n (Nat.le_refl _)) (pls_nr hpd).2 nd (Nat.le_refl _)⟩
            refine lv_iconst (v := 0) hx hb dX4_allows_112 rfl ?_
            refine lv_istore (lv' := [(7, .int 0), (6, .int 6), (5, .int (nI (nd - 1))), (4, .ref r), (0, .ref lw), (1, .ref sh), (2, .ref fe), (3, .int (-2))]) hx hb dX4_allows_113 hl (Nat.le_of_ble_eq_true rfl) rfl (fun ls hl => ?_)
            have hl_115 : ∀ (n9 : Nat) (g5 : Nat) (nt1 : Nat) (TX1 : Nat → Int32) (TY1 : Nat → Int32) (rt1 : Int32) (nw1 : Nat) (WX1 : Nat → Int32) (WY1 : Nat → Int32) (rw1 : Int32) (b5 : Int32) (b6 : Int32) (b7 : Int32) (b8 : Int32) (H : Heap) (locs : List Loc) (ls : Array Slot), ft - g5 < n9 → (g5 ≤ ft) → (∀ q, q < g5 → (q ≠ f0 → lvF ft st tn q → (apB (mnI (mnI (X 0).toInt X n) P nd) (mnI (mnI (Y 0).toInt Y n) Q nd) (mxI (mxI (X 0).toInt X n) P nd) (mxI (mxI (Y 0).toInt Y n) Q nd) (nN (mn q)) (cF40 cx q) (cF40 cy q) ∨ (asb n X Y rg nd P Q rd (nN (mn q)) (cF40 cx q) (cF40 cy q) (rgK (kd q).toInt))))) → va_P (dC, dI) classes ([(oc3 lw (.ref dr) (.ref tg) (.ref wy) (.ref br) (.ref bo) (.ref aa)), (oc6 tg (.ref tx) (.ref ty) (nI nt1) rt1), (oa tx cI 3 TX1), (oa ty cI 3 TY1), (oc6 wy (.ref wx) (.ref wz) (nI nw1) rw1), (oa wx cI 2 WX1), (oa wz cI 2 WY1), (oc6 dr (.ref dx) (.ref dy) (nI nd) rd), (oa dx cI cd P), (oa dy cI cd Q), (oc0 br (iI (mnI (mnI (X 0).toInt X n) P nd)) (iI (mnI (mnI (Y 0).toInt Y n) Q nd)) (iI (mxI (mxI (X 0).toInt X n) P nd)) (iI (mxI (mxI (Y 0).toInt Y n) Q nd))), (oc0 bo b5 b6 b7 b8), (oc7 sh (.ref fa) (nI ft)), (oq fa cF 200 FA), (oc1 fe rk9 wd9 tw9 pa9 pb9 (.ref lo) (.ref lk) fm9), (oc4 lk kd9 st9 (.ref r) gb9 jt9 we9), (oc6 r (.ref rx) (.ref ry) (nI n) rg), (oa rx cI cap X), (oa ry cI cap Y)] ++ va_pl L f) H → va_D A ([(oc3 lw (.ref dr) (.ref tg) (.ref wy) (.ref br) (.ref bo) (.ref aa)), (oc6 tg (.ref tx) (.ref ty) (nI nt1) rt1), (oa tx cI 3 TX1), (oa ty cI 3 TY1), (oc6 wy (.ref wx) (.ref wz) (nI nw1) rw1), (oa wx cI 2 WX1), (oa wz cI 2 WY1), (oc6 dr (.ref dx) (.ref dy) (nI nd) rd), (oa dx cI cd P), (oa dy cI cd Q), (oc0 br (iI (mnI (mnI (X 0).toInt X n) P nd)) (iI (mnI (mnI (Y 0).toInt Y n) Q nd)) (iI (mxI (mxI (X 0).toInt X n) P nd)) (iI (mxI (mxI (Y 0).toInt Y n) Q nd))), (oc0 bo b5 b6 b7 b8), (oc7 sh (.ref fa) (nI ft)), (oq fa cF 200 FA), (oc1 fe rk9 wd9 tw9 pa9 pb9 (.ref lo) (.ref lk) fm9), (oc4 lk kd9 st9 (.ref r) gb9 jt9 we9), (oc6 r (.ref rx) (.ref ry) (nI n) rg), (oa rx cI cap X), (oa ry cI cap Y)] ++ va_pl L f) → va_S A s.heap H locs → lv_has ls 9 [(7, .int (nI g5)), (6, .int 6), (5, .int (nI (nd - 1))), (4, .ref r), (0, .ref lw), (1, .ref sh), (2, .ref fe), (3, .int (-2))] → W p l e ((headSpec (.code yX4_allows cX4_allows 9 (some .boolean) :: ws0) ({ frames := 4, cells := 0, slots := 0, locals := 88 } : Room)).room) s m ([.ref lw, .ref sh, .ref fe, .int (-2)] : List Value).toArray below meth c H locs 0 0 Q9 (F0 m 115 ls []) := by
              intro n9
              induction n9 with
              | zero => intro g5 nt1 TX1 TY1 rt1 nw1 WX1 WY1 rw1 b5 b6 b7 b8 H locs ls hm; exact absurd hm (Nat.not_lt_zero _)
              | succ n9 ih_115 =>
                intro g5 nt1 TX1 TY1 rt1 nw1 WX1 WY1 rw1 b5 b6 b7 b8 H locs ls hm hi5 hall hP hD hS hl
                refine lv_iload hx hb dX4_allows_115 (lv_at hl 0 rfl) ?_
                refine lv_aload_n hx hb dX4_allows_117 rfl (lv_at hl 5 rfl) ?_
                refine va_get (D := (dC, dI)) (ci := 7) (v := .int (nI ft)) (C := RX8) (T := TX8) (N := 2) hx hb hts inX8 hown hK hP 12 rfl rfl 1 (Nat.le_of_ble_eq_true rfl) (hts _ mw_139) (fun _ h9 => h9) rfl dX4_allows_118 ?_
                have b9_8 : g5 < 2147483648 := by omega
                have b9_9 : ft < 2147483648 := by omega
                refine lv_icmp_ge (tgt := 193) hx hb dX4_allows_121 rfl (fun c_7 => ?_) (fun c_7 => ?_)
                · have c_7 : ((ft : Nat) : Int) ≤ ((g5 : Nat) : Int) := zc_le (nI_toInt b9_9) (nI_toInt b9_8) c_7
                  refine lv_iconst (v := 1) hx hb dX4_allows_193 rfl ?_
                  obtain ⟨hP9, hD9⟩ := zq_part (cx := [(oc3 lw (.ref dr) (.ref tg) (.ref wy) (.ref br) (.ref bo) (.ref aa)), (oc6 tg (.ref tx) (.ref ty) (nI nt1) rt1), (oa tx cI 3 TX1), (oa ty cI 3 TY1), (oc6 wy (.ref wx) (.ref wz) (nI nw1) rw1), (oa wx cI 2 WX1), (oa wz cI 2 WY1), (oc6 dr (.ref dx) (.ref dy) (nI nd) rd), (oa dx cI cd P), (oa dy cI cd Q), (oc0 br (iI (mnI (mnI (X 0).toInt X n) P nd)) (iI (mnI (mnI (Y 0).toInt Y n) Q nd)) (iI (mxI (mxI (X 0).toInt X n) P nd)) (iI (mxI (mxI (Y 0).toInt Y n) Q nd))), (oc0 bo b5 b6 b7 b8), (oc7 sh (.ref fa) (nI ft)), (oq fa cF 200 FA), (oc1 fe rk9 wd9 tw9 pa9 pb9 (.ref lo) (.ref lk) fm9), (oc4 lk kd9 st9 (.ref r) gb9 jt9 we9), (oc6 r (.ref rx) (.ref ry) (nI n) rg), (oa rx cI cap X), (oa ry cI cap Y)]) hP hD [0, 1, 2, 3, 4, 5, 6, 7, 8, 9, 10, 11, 12, 13, 14, 15, 16, 17, 18] rfl rfl
                  rw [hQ9]
                  exact W.zret (ty := .boolean) (v := 1) hx hb hr (rfl) (fun t ht hW => ⟨⟨congrArg (fun z => Outcome.returned (some (Value.int z))) (show (1 : Int32) = pI (pls nd P Q ∧ ((∀ i, i < edg nd rd → eFr nd P Q rd i (i + 1)) ∧ (¬ (6 : Int32).toInt = 6 ∨ ∀ k, k < nd → eRt nd P Q k)) ∧ ∀ q, q < ft → (q ≠ f0 → lvF ft st tn q → (apB (mnI (mnI (X 0).toInt X n) P nd) (mnI (mnI (Y 0).toInt Y n) Q nd) (mxI (mxI (X 0).toInt X n) P nd) (mxI (mxI (Y 0).toInt Y n) Q nd) (nN (mn q)) (cF40 cx q) (cF40 cy q) ∨ (asb n X Y rg nd P Q rd (nN (mn q)) (cF40 cx q) (cF40 cy q) (rgK (kd q).toInt))))) from (zp_t (⟨by assumption, by assumption, fun q hq => hall q (by omega)⟩)).symm), nt1, TX1, TY1, rt1, nw1, WX1, WY1, rw1, (iI (mnI (mnI (X 0).toInt X n) P nd)), (iI (mnI (mnI (Y 0).toInt Y n) Q nd)), (iI (mxI (mxI (X 0).toInt X n) P nd)), (iI (mxI (mxI (Y 0).toInt Y n) Q nd)), b5, b6, b7, b8, by rw [ht]; exact hP9, hD9⟩, hS.F ht⟩) hS.2.2 dX4_allows_194
                · have c_7 : ((g5 : Nat) : Int) < ((ft : Nat) : Int) := zc_nle (nI_toInt b9_9) (nI_toInt b9_8) c_7
                  rcases vw4 (hvw g5) (show g5 < ft by omega) with hif | ⟨hif, hs2, fe2, lk2, lo2, rk2, wd2, tw2, pa2, pb2, gb2, jt2, we2, fm2, rw2, hFA2, hfe2, hlk2⟩ | ⟨hif, ht2, fe2, lk2, lo2, rk2, wd2, tw2, pa2, pb2, gb2, jt2, we2, fm2, hFA2, hfe2, hlk2⟩ | ⟨hif, hlv2, fe2, lk2, lo2, rk2, wd2, tw2, pa2, pb2, gb2, jt2, we2, fm2, r2, rx2, ry2, cap2, U2, V2, rg2, hFA2, hfe2, hlk2, ⟨hr2, hrx2, hry2, hne2⟩, hrr2⟩
                  · skip
                    have hFi : FA g5 = some fe := (by rw [hif]; exact hFA)
                    refine lv_aload_n hx hb dX4_allows_124 rfl (lv_at hl 5 rfl) ?_
                    refine lv_iload hx hb dX4_allows_125 (lv_at hl 0 rfl) ?_
                    obtain ⟨hPc, hDc, hFc⟩ := zc_sub (wc := [(oc7 sh (.ref fa) (nI ft)), (oq fa cF 200 FA), (oc1 fe rk9 wd9 tw9 pa9 pb9 (.ref lo) (.ref lk) fm9), (oc4 lk kd9 st9 (.ref r) gb9 jt9 we9)]) hP hD hS hA [12, 13, 14, 15] rfl rfl
                    refine zcall (st1 := [.ref r]) (va_runV (As := [.int (nI g5)]) (rest := []) ⟨hx, hb, hml, hown, hts⟩ (k_Sheet_rowThere_yv l dC dI cI cZ cF H.size sh fa ft FA g5 fe lo rk9 wd9 tw9 pa9 pb9 lk kd9 st9 gb9 jt9 we9 r fm9 (by first | with_reducible assumption | omega) (by first | with_reducible assumption | omega) (by first | exact hFi | exact hFA2) (by first | exact hs1 | exact hs2 | exact hlv2.2.1)) (csV_62 hts rfl rfl ⟨Nat.le_of_ble_eq_true rfl, Nat.le_of_ble_eq_true rfl⟩) (zPV2 (q0 := 0) (ci := 7) hPc hDc hK hXN rfl rfl) rfl rfl hl.1 rfl (lv_room (Nat.le_of_ble_eq_true rfl)) dX4_allows_127 ⟨Nat.le_of_ble_eq_true rfl, Nat.le_of_ble_eq_true rfl⟩) hS hFc hFc rfl (fun t H locs ht hB hk1 hS => ?_)
                    obtain ⟨hP1, hD1⟩ := hB
                    rw [ht] at hP1
                    obtain ⟨hP, hD⟩ := zkQ (W2 := [(oc3 lw (.ref dr) (.ref tg) (.ref wy) (.ref br) (.ref bo) (.ref aa)), (oc6 tg (.ref tx) (.ref ty) (nI nt1) rt1), (oa tx cI 3 TX1), (oa ty cI 3 TY1), (oc6 wy (.ref wx) (.ref wz) (nI nw1) rw1), (oa wx cI 2 WX1), (oa wz cI 2 WY1), (oc6 dr (.ref dx) (.ref dy) (nI nd) rd), (oa dx cI cd P), (oa dy cI cd Q), (oc0 br (iI (mnI (mnI (X 0).toInt X n) P nd)) (iI (mnI (mnI (Y 0).toInt Y n) Q nd)) (iI (mxI (mxI (X 0).toInt X n) P nd)) (iI (mxI (mxI (Y 0).toInt Y n) Q nd))), (oc0 bo b5 b6 b7 b8), (oc7 sh (.ref fa) (nI ft)), (oq fa cF 200 FA), (oc1 fe rk9 wd9 tw9 pa9 pb9 (.ref lo) (.ref lk) fm9), (oc4 lk kd9 st9 (.ref r) gb9 jt9 we9), (oc6 r (.ref rx) (.ref ry) (nI n) rg), (oa rx cI cap X), (oa ry cI cap Y)]) hP hD [12, 13, 14, 15] [0, 1, 2, 3, 4, 5, 6, 7, 8, 9, 10, 11, 16, 17, 18] [0, 1, 2, 3, 4, 5, 6, 7, 8, 9, 10, 11, 16, 17, 18] [12, 13, 14, 15] [0, 1, 2, 3, 4, 5, 6, 7, 8, 9, 10, 11, 15, 16, 17, 18, 12, 13, 14] 19 rfl rfl rfl rfl rfl rfl rfl rfl rfl hk1 hFc hP1 hD1
                    clear hk1 hPc hDc hFc hP1 hD1 ht
                    refine lv_astore (lv' := [(8, .ref r), (7, .int (nI g5)), (6, .int 6), (5, .int (nI (nd - 1))), (4, .ref r), (0, .ref lw), (1, .ref sh), (2, .ref fe), (3, .int (-2))]) hx hb dX4_allows_130 hl (Nat.le_of_ble_eq_true rfl) rfl (fun ls hl => ?_)
                    refine lv_aload hx hb dX4_allows_132 (lv_at hl 0 rfl) ?_
                    refine lv_ifnull hx hb dX4_allows_134 ?_
                    refine lv_aload_n hx hb dX4_allows_137 rfl (lv_at hl 6 rfl) ?_
                    refine lv_iload hx hb dX4_allows_138 (lv_at hl 1 rfl) ?_
                    obtain ⟨hPc, hDc, hFc⟩ := zc_sub (wc := [(oc7 sh (.ref fa) (nI ft)), (oq fa cF 200 FA)]) hP hD hS hA [12, 13] rfl rfl
                    refine zcall (st1 := [.ref fe]) (va_runV (As := [.int (nI g5)]) (rest := []) ⟨hx, hb, hml, hown, hts⟩ (k_Sheet_find l dC dI cI cZ cF H.size sh fa ft FA g5 fe (by first | with_reducible assumption | omega) (by first | with_reducible assumption | omega) (by first | exact hFi | exact hFA2)) (csV_63 hts rfl rfl ⟨Nat.le_of_ble_eq_true rfl, Nat.le_of_ble_eq_true rfl⟩) (zPV2 (q0 := 0) (ci := 7) hPc hDc hK hXN rfl rfl) rfl rfl hl.1 rfl (lv_room (Nat.le_of_ble_eq_true rfl)) dX4_allows_140 ⟨Nat.le_of_ble_eq_true rfl, Nat.le_of_ble_eq_true rfl⟩) hS hFc hFc rfl (fun t H locs ht hB hk1 hS => ?_)
                    obtain ⟨hP1, hD1⟩ := hB
                    rw [ht] at hP1
                    obtain ⟨hP, hD⟩ := zkQ (W2 := [(oc3 lw (.ref dr) (.ref tg) (.ref wy) (.ref br) (.ref bo) (.ref aa)), (oc6 tg (.ref tx) (.ref ty) (nI nt1) rt1), (oa tx cI 3 TX1), (oa ty cI 3 TY1), (oc6 wy (.ref wx) (.ref wz) (nI nw1) rw1), (oa wx cI 2 WX1), (oa wz cI 2 WY1), (oc6 dr (.ref dx) (.ref dy) (nI nd) rd), (oa dx cI cd P), (oa dy cI cd Q), (oc0 br (iI (mnI (mnI (X 0).toInt X n) P nd)) (iI (mnI (mnI (Y 0).toInt Y n) Q nd)) (iI (mxI (mxI (X 0).toInt X n) P nd)) (iI (mxI (mxI (Y 0).toInt Y n) Q nd))), (oc0 bo b5 b6 b7 b8), (oc7 sh (.ref fa) (nI ft)), (oq fa cF 200 FA), (oc1 fe rk9 wd9 tw9 pa9 pb9 (.ref lo) (.ref lk) fm9), (oc4 lk kd9 st9 (.ref r) gb9 jt9 we9), (oc6 r (.ref rx) (.ref ry) (nI n) rg), (oa rx cI cap X), (oa ry cI cap Y)]) hP hD [12, 13] [0, 1, 2, 3, 4, 5, 6, 7, 8, 9, 10, 11, 14, 15, 16, 17, 18] [0, 1, 2, 3, 4, 5, 6, 7, 8, 9, 10, 11, 14, 15, 16, 17, 18] [12, 13] [0, 1, 2, 3, 4, 5, 6, 7, 8, 9, 10, 11, 17, 18, 12, 13, 14, 15, 16] 19 rfl rfl rfl rfl rfl rfl rfl rfl rfl hk1 hFc hP1 hD1
                    clear hk1 hPc hDc hFc hP1 hD1 ht
                    refine lv_aload_n hx hb dX4_allows_143 rfl (lv_at hl 7 rfl) ?_
                    refine z_acmpne (rx := fe) (ry := fe) (tgt := 150) hx hb dX4_allows_144 (by decide) (fun c_10 => ?_) (fun c_10 => ?_)
                    · have c_10 : ¬ fe = fe := c_10
                      exact absurd rfl c_10
                    · have c_10 : fe = fe := c_10
                      refine lv_goto (tgt := 187) hx hb dX4_allows_147 rfl ?_
                      refine lv_iinc (v := nI (g5 + 1)) (lv' := [(7, .int (nI (g5 + 1))), (8, .ref r), (6, .int 6), (5, .int (nI (nd - 1))), (4, .ref r), (0, .ref lw), (1, .ref sh), (2, .ref fe), (3, .int (-2))]) hx hb dX4_allows_187 hl (k := 1) rfl (nI_add g5 1) (Nat.le_of_ble_eq_true rfl) rfl (fun ls hl => ?_)
                      refine lv_goto (tgt := 115) hx hb dX4_allows_190 rfl ?_
                      exact ih_115 (g5 + 1) nt1 TX1 TY1 rt1 nw1 WX1 WY1 rw1 b5 b6 b7 b8 H locs ls (by first | with_reducible assumption | omega) (by first | with_reducible assumption | omega) (by intro q hq; rcases Nat.lt_or_ge q g5 with h | h; exact hall q h; rw [show q = g5 by omega]; intro h1 h2; first | exact absurd hif h1 | exact absurd h2.2.1 hs2 | exact absurd h2.2.2 ht2 | exact Or.inl (by first | with_reducible assumption | assumption) | exact Or.inr (by first | with_reducible assumption | assumption)) hP hD hS (lv_sub hl [0, 2, 3, 4, 5, 6, 7, 8] rfl)
                  · skip
                    have hc9_1 : inPl L f [(oc1 fe2 rk2 wd2 tw2 pa2 pb2 (.ref lo2) (.ref lk2) fm2), (oc4 lk2 (kd g5) (st g5) rw2 gb2 jt2 we2)] := ⟨hfe2, hlk2, trivial⟩
                    have hD0_1 := hD
                    obtain ⟨hP, hD⟩ := pl_out hP hD [(oc1 fe2 rk2 wd2 tw2 pa2 pb2 (.ref lo2) (.ref lk2) fm2), (oc4 lk2 (kd g5) (st g5) rw2 gb2 jt2 we2)] hc9_1 (pwF hfe2.2 hlk2.2)
                    generalize hT_1 : outPl L [(oc1 fe2 rk2 wd2 tw2 pa2 pb2 (.ref lo2) (.ref lk2) fm2), (oc4 lk2 (kd g5) (st g5) rw2 gb2 jt2 we2)] = T_1 at hP hD
                    obtain ⟨hP, hD⟩ : zPD (dC, dI) classes A ([(oc3 lw (.ref dr) (.ref tg) (.ref wy) (.ref br) (.ref bo) (.ref aa)), (oc6 tg (.ref tx) (.ref ty) (nI nt1) rt1), (oa tx cI 3 TX1), (oa ty cI 3 TY1), (oc6 wy (.ref wx) (.ref wz) (nI nw1) rw1), (oa wx cI 2 WX1), (oa wz cI 2 WY1), (oc6 dr (.ref dx) (.ref dy) (nI nd) rd), (oa dx cI cd P), (oa dy cI cd Q), (oc0 br (iI (mnI (mnI (X 0).toInt X n) P nd)) (iI (mnI (mnI (Y 0).toInt Y n) Q nd)) (iI (mxI (mxI (X 0).toInt X n) P nd)) (iI (mxI (mxI (Y 0).toInt Y n) Q nd))), (oc0 bo b5 b6 b7 b8), (oc7 sh (.ref fa) (nI ft)), (oq fa cF 200 FA), (oc1 fe rk9 wd9 tw9 pa9 pb9 (.ref lo) (.ref lk) fm9), (oc4 lk kd9 st9 (.ref r) gb9 jt9 we9), (oc6 r (.ref rx) (.ref ry) (nI n) rg), (oa rx cI cap X), (oa ry cI cap Y), (oc1 fe2 rk2 wd2 tw2 pa2 pb2 (.ref lo2) (.ref lk2) fm2), (oc4 lk2 (kd g5) (st g5) rw2 gb2 jt2 we2)] ++ va_pl T_1 f) H := ⟨hP, hD⟩
                    refine lv_aload_n hx hb dX4_allows_124 rfl (lv_at hl 5 rfl) ?_
                    refine lv_iload hx hb dX4_allows_125 (lv_at hl 0 rfl) ?_
                    obtain ⟨hPc, hDc, hFc⟩ := zc_sub (wc := [(oc7 sh (.ref fa) (nI ft)), (oq fa cF 200 FA), (oc1 fe2 rk2 wd2 tw2 pa2 pb2 (.ref lo2) (.ref lk2) fm2), (oc4 lk2 (kd g5) (st g5) rw2 gb2 jt2 we2)]) hP hD hS hA [12, 13, 19, 20] rfl rfl
                    refine zcall (st1 := [.null]) (va_runV (As := [.int (nI g5)]) (rest := []) ⟨hx, hb, hml, hown, hts⟩ (k_Sheet_rowThere_sv l dC dI cI cZ cF H.size sh fa ft FA g5 fe2 lo2 rk2 wd2 tw2 pa2 pb2 lk2 (kd g5) (st g5) gb2 jt2 we2 fm2 rw2 (by first | with_reducible assumption | omega) (by first | with_reducible assumption | omega) (by first | exact hFi | exact hFA2) (by first | exact hs1 | exact hs2 | exact hlv2.2.1)) (csV_62 hts rfl rfl ⟨Nat.le_of_ble_eq_true rfl, Nat.le_of_ble_eq_true rfl⟩) (zPV2 (q0 := 0) (ci := 7) hPc hDc hK hXN rfl rfl) rfl rfl hl.1 rfl (lv_room (Nat.le_of_ble_eq_true rfl)) dX4_allows_127 ⟨Nat.le_of_ble_eq_true rfl, Nat.le_of_ble_eq_true rfl⟩) hS hFc hFc rfl (fun t H locs ht hB hk1 hS => ?_)
                    obtain ⟨hP1, hD1⟩ := hB
                    rw [ht] at hP1
                    obtain ⟨hP, hD⟩ := zkQ (W2 := [(oc3 lw (.ref dr) (.ref tg) (.ref wy) (.ref br) (.ref bo) (.ref aa)), (oc6 tg (.ref tx) (.ref ty) (nI nt1) rt1), (oa tx cI 3 TX1), (oa ty cI 3 TY1), (oc6 wy (.ref wx) (.ref wz) (nI nw1) rw1), (oa wx cI 2 WX1), (oa wz cI 2 WY1), (oc6 dr (.ref dx) (.ref dy) (nI nd) rd), (oa dx cI cd P), (oa dy cI cd Q), (oc0 br (iI (mnI (mnI (X 0).toInt X n) P nd)) (iI (mnI (mnI (Y 0).toInt Y n) Q nd)) (iI (mxI (mxI (X 0).toInt X n) P nd)) (iI (mxI (mxI (Y 0).toInt Y n) Q nd))), (oc0 bo b5 b6 b7 b8), (oc7 sh (.ref fa) (nI ft)), (oq fa cF 200 FA), (oc1 fe rk9 wd9 tw9 pa9 pb9 (.ref lo) (.ref lk) fm9), (oc4 lk kd9 st9 (.ref r) gb9 jt9 we9), (oc6 r (.ref rx) (.ref ry) (nI n) rg), (oa rx cI cap X), (oa ry cI cap Y), (oc1 fe2 rk2 wd2 tw2 pa2 pb2 (.ref lo2) (.ref lk2) fm2), (oc4 lk2 (kd g5) (st g5) rw2 gb2 jt2 we2)]) hP hD [12, 13, 19, 20] [0, 1, 2, 3, 4, 5, 6, 7, 8, 9, 10, 11, 14, 15, 16, 17, 18] [0, 1, 2, 3, 4, 5, 6, 7, 8, 9, 10, 11, 14, 15, 16, 17, 18] [12, 13, 19, 20] [0, 1, 2, 3, 4, 5, 6, 7, 8, 9, 10, 11, 17, 18, 12, 13, 14, 15, 16, 19, 20] 21 rfl rfl rfl rfl rfl rfl rfl rfl rfl hk1 hFc hP1 hD1
                    clear hk1 hPc hDc hFc hP1 hD1 ht
                    refine lv_astoreN (lv' := [(8, .null), (7, .int (nI g5)), (6, .int 6), (5, .int (nI (nd - 1))), (4, .ref r), (0, .ref lw), (1, .ref sh), (2, .ref fe), (3, .int (-2))]) hx hb dX4_allows_130 hl (Nat.le_of_ble_eq_true rfl) rfl (fun ls hl => ?_)
                    refine lv_aloadN hx hb dX4_allows_132 (lv_at hl 0 rfl) ?_
                    refine lv_ifnullN (tgt := 187) hx hb dX4_allows_134 rfl ?_
                    have hP := pl_back (cs := [(oc1 fe2 rk2 wd2 tw2 pa2 pb2 (.ref lo2) (.ref lk2) fm2), (oc4 lk2 (kd g5) (st g5) rw2 gb2 jt2 we2)]) (L := L) (f := f) (X := [(oc3 lw (.ref dr) (.ref tg) (.ref wy) (.ref br) (.ref bo) (.ref aa)), (oc6 tg (.ref tx) (.ref ty) (nI nt1) rt1), (oa tx cI 3 TX1), (oa ty cI 3 TY1), (oc6 wy (.ref wx) (.ref wz) (nI nw1) rw1), (oa wx cI 2 WX1), (oa wz cI 2 WY1), (oc6 dr (.ref dx) (.ref dy) (nI nd) rd), (oa dx cI cd P), (oa dy cI cd Q), (oc0 br (iI (mnI (mnI (X 0).toInt X n) P nd)) (iI (mnI (mnI (Y 0).toInt Y n) Q nd)) (iI (mxI (mxI (X 0).toInt X n) P nd)) (iI (mxI (mxI (Y 0).toInt Y n) Q nd))), (oc0 bo b5 b6 b7 b8), (oc7 sh (.ref fa) (nI ft)), (oq fa cF 200 FA), (oc1 fe rk9 wd9 tw9 pa9 pb9 (.ref lo) (.ref lk) fm9), (oc4 lk kd9 st9 (.ref r) gb9 jt9 we9), (oc6 r (.ref rx) (.ref ry) (nI n) rg), (oa rx cI cap X), (oa ry cI cap Y)]) (by rw [hT_1]; exact (show va_P (dC, dI) classes (([(oc3 lw (.ref dr) (.ref tg) (.ref wy) (.ref br) (.ref bo) (.ref aa)), (oc6 tg (.ref tx) (.ref ty) (nI nt1) rt1), (oa tx cI 3 TX1), (oa ty cI 3 TY1), (oc6 wy (.ref wx) (.ref wz) (nI nw1) rw1), (oa wx cI 2 WX1), (oa wz cI 2 WY1), (oc6 dr (.ref dx) (.ref dy) (nI nd) rd), (oa dx cI cd P), (oa dy cI cd Q), (oc0 br (iI (mnI (mnI (X 0).toInt X n) P nd)) (iI (mnI (mnI (Y 0).toInt Y n) Q nd)) (iI (mxI (mxI (X 0).toInt X n) P nd)) (iI (mxI (mxI (Y 0).toInt Y n) Q nd))), (oc0 bo b5 b6 b7 b8), (oc7 sh (.ref fa) (nI ft)), (oq fa cF 200 FA), (oc1 fe rk9 wd9 tw9 pa9 pb9 (.ref lo) (.ref lk) fm9), (oc4 lk kd9 st9 (.ref r) gb9 jt9 we9), (oc6 r (.ref rx) (.ref ry) (nI n) rg), (oa rx cI cap X), (oa ry cI cap Y)] ++ [(oc1 fe2 rk2 wd2 tw2 pa2 pb2 (.ref lo2) (.ref lk2) fm2), (oc4 lk2 (kd g5) (st g5) rw2 gb2 jt2 we2)]) ++ va_pl T_1 f) H from hP)) hc9_1
                    have hD : va_D A ([(oc3 lw (.ref dr) (.ref tg) (.ref wy) (.ref br) (.ref bo) (.ref aa)), (oc6 tg (.ref tx) (.ref ty) (nI nt1) rt1), (oa tx cI 3 TX1), (oa ty cI 3 TY1), (oc6 wy (.ref wx) (.ref wz) (nI nw1) rw1), (oa wx cI 2 WX1), (oa wz cI 2 WY1), (oc6 dr (.ref dx) (.ref dy) (nI nd) rd), (oa dx cI cd P), (oa dy cI cd Q), (oc0 br (iI (mnI (mnI (X 0).toInt X n) P nd)) (iI (mnI (mnI (Y 0).toInt Y n) Q nd)) (iI (mxI (mxI (X 0).toInt X n) P nd)) (iI (mxI (mxI (Y 0).toInt Y n) Q nd))), (oc0 bo b5 b6 b7 b8), (oc7 sh (.ref fa) (nI ft)), (oq fa cF 200 FA), (oc1 fe rk9 wd9 tw9 pa9 pb9 (.ref lo) (.ref lk) fm9), (oc4 lk kd9 st9 (.ref r) gb9 jt9 we9), (oc6 r (.ref rx) (.ref ry) (nI n) rg), (oa rx cI cap X), (oa ry cI cap Y)] ++ va_pl L f) := vaD_ae hD0_1 rfl
                    refine lv_iinc (v := nI (g5 + 1)) (lv' := [(7, .int (nI (g5 + 1))), (8, .null), (6, .int 6), (5, .int (nI (nd - 1))), (4, .ref r), (0, .ref lw), (1, .ref sh), (2, .ref fe), (3, .int (-2))]) hx hb dX4_allows_187 hl (k := 1) rfl (nI_add g5 1) (Nat.le_of_ble_eq_true rfl) rfl (fun ls hl => ?_)
                    refine lv_goto (tgt := 115) hx hb dX4_allows_190 rfl ?_
                    exact ih_115 (g5 + 1) nt1 TX1 TY1 rt1 nw1 WX1 WY1 rw1 b5 b6 b7 b8 H locs ls (by first | with_reducible assumption | omega) (by first | with_reducible assumption | omega) (by intro q hq; rcases Nat.lt_or_ge q g5 with h | h; exact hall q h; rw [show q = g5 by omega]; intro h1 h2; first | exact absurd hif h1 | exact absurd h2.2.1 hs2 | exact absurd h2.2.2 ht2 | exact Or.inl (by first | with_reducible assumption | assumption) | exact Or.inr (by first | with_reducible assumption | assumption)) hP hD hS (lv_sub hl [0, 2, 3, 4, 5, 6, 7, 8] rfl)
                  · skip
                    have hc9_1 : inPl L f [(oc1 fe2 rk2 wd2 tw2 pa2 pb2 (.ref lo2) (.ref lk2) fm2), (oc4 lk2 (kd g5) (st g5) .null gb2 jt2 we2)] := ⟨hfe2, hlk2, trivial⟩
                    have hD0_1 := hD
                    obtain ⟨hP, hD⟩ := pl_out hP hD [(oc1 fe2 rk2 wd2 tw2 pa2 pb2 (.ref lo2) (.ref lk2) fm2), (oc4 lk2 (kd g5) (st g5) .null gb2 jt2 we2)] hc9_1 (pwF hfe2.2 hlk2.2)
                    generalize hT_1 : outPl L [(oc1 fe2 rk2 wd2 tw2 pa2 pb2 (.ref lo2) (.ref lk2) fm2), (oc4 lk2 (kd g5) (st g5) .null gb2 jt2 we2)] = T_1 at hP hD
                    obtain ⟨hP, hD⟩ : zPD (dC, dI) classes A ([(oc3 lw (.ref dr) (.ref tg) (.ref wy) (.ref br) (.ref bo) (.ref aa)), (oc6 tg (.ref tx) (.ref ty) (nI nt1) rt1), (oa tx cI 3 TX1), (oa ty cI 3 TY1), (oc6 wy (.ref wx) (.ref wz) (nI nw1) rw1), (oa wx cI 2 WX1), (oa wz cI 2 WY1), (oc6 dr (.ref dx) (.ref dy) (nI nd) rd), (oa dx cI cd P), (oa dy cI cd Q), (oc0 br (iI (mnI (mnI (X 0).toInt X n) P nd)) (iI (mnI (mnI (Y 0).toInt Y n) Q nd)) (iI (mxI (mxI (X 0).toInt X n) P nd)) (iI (mxI (mxI (Y 0).toInt Y n) Q nd))), (oc0 bo b5 b6 b7 b8), (oc7 sh (.ref fa) (nI ft)), (oq fa cF 200 FA), (oc1 fe rk9 wd9 tw9 pa9 pb9 (.ref lo) (.ref lk) fm9), (oc4 lk kd9 st9 (.ref r) gb9 jt9 we9), (oc6 r (.ref rx) (.ref ry) (nI n) rg), (oa rx cI cap X), (oa ry cI cap Y), (oc1 fe2 rk2 wd2 tw2 pa2 pb2 (.ref lo2) (.ref lk2) fm2), (oc4 lk2 (kd g5) (st g5) .null gb2 jt2 we2)] ++ va_pl T_1 f) H := ⟨hP, hD⟩
                    refine lv_aload_n hx hb dX4_allows_124 rfl (lv_at hl 5 rfl) ?_
                    refine lv_iload hx hb dX4_allows_125 (lv_at hl 0 rfl) ?_
                    obtain ⟨hPc, hDc, hFc⟩ := zc_sub (wc := [(oc7 sh (.ref fa) (nI ft)), (oq fa cF 200 FA), (oc1 fe2 rk2 wd2 tw2 pa2 pb2 (.ref lo2) (.ref lk2) fm2), (oc4 lk2 (kd g5) (st g5) .null gb2 jt2 we2)]) hP hD hS hA [12, 13, 19, 20] rfl rfl
                    refine zcall (st1 := [.null]) (va_runV (As := [.int (nI g5)]) (rest := []) ⟨hx, hb, hml, hown, hts⟩ (k_Sheet_rowThere_tv l dC dI cI cZ cF H.size sh fa ft FA g5 fe2 lo2 rk2 wd2 tw2 pa2 pb2 lk2 (kd g5) (st g5) gb2 jt2 we2 fm2 (by first | with_reducible assumption | omega) (by first | with_reducible assumption | omega) (by first | exact hFi | exact hFA2)) (csV_62 hts rfl rfl ⟨Nat.le_of_ble_eq_true rfl, Nat.le_of_ble_eq_true rfl⟩) (zPV2 (q0 := 0) (ci := 7) hPc hDc hK hXN rfl rfl) rfl rfl hl.1 rfl (lv_room (Nat.le_of_ble_eq_true rfl)) dX4_allows_127 ⟨Nat.le_of_ble_eq_true rfl, Nat.le_of_ble_eq_true rfl⟩) hS hFc hFc rfl (fun t H locs ht hB hk1 hS => ?_)
                    obtain ⟨hP1, hD1⟩ := hB
                    rw [ht] at hP1
                    obtain ⟨hP, hD⟩ := zkQ (W2 := [(oc3 lw (.ref dr) (.ref tg) (.ref wy) (.ref br) (.ref bo) (.ref aa)), (oc6 tg (.ref tx) (.ref ty) (nI nt1) rt1), (oa tx cI 3 TX1), (oa ty cI 3 TY1), (oc6 wy (.ref wx) (.ref wz) (nI nw1) rw1), (oa wx cI 2 WX1), (oa wz cI 2 WY1), (oc6 dr (.ref dx) (.ref dy) (nI nd) rd), (oa dx cI cd P), (oa dy cI cd Q), (oc0 br (iI (mnI (mnI (X 0).toInt X n) P nd)) (iI (mnI (mnI (Y 0).toInt Y n) Q nd)) (iI (mxI (mxI (X 0).toInt X n) P nd)) (iI (mxI (mxI (Y 0).toInt Y n) Q nd))), (oc0 bo b5 b6 b7 b8), (oc7 sh (.ref fa) (nI ft)), (oq fa cF 200 FA), (oc1 fe rk9 wd9 tw9 pa9 pb9 (.ref lo) (.ref lk) fm9), (oc4 lk kd9 st9 (.ref r) gb9 jt9 we9), (oc6 r (.ref rx) (.ref ry) (nI n) rg), (oa rx cI cap X), (oa ry cI cap Y), (oc1 fe2 rk2 wd2 tw2 pa2 pb2 (.ref lo2) (.ref lk2) fm2), (oc4 lk2 (kd g5) (st g5) .null gb2 jt2 we2)]) hP hD [12, 13, 19, 20] [0, 1, 2, 3, 4, 5, 6, 7, 8, 9, 10, 11, 14, 15, 16, 17, 18] [0, 1, 2, 3, 4, 5, 6, 7, 8, 9, 10, 11, 14, 15, 16, 17, 18] [12, 13, 19, 20] [0, 1, 2, 3, 4, 5, 6, 7, 8, 9, 10, 11, 17, 18, 12, 13, 14, 15, 16, 19, 20] 21 rfl rfl rfl rfl rfl rfl rfl rfl rfl hk1 hFc hP1 hD1
                    clear hk1 hPc hDc hFc hP1 hD1 ht
                    refine lv_astoreN (lv' := [(8, .null), (7, .int (nI g5)), (6, .int 6), (5, .int (nI (nd - 1))), (4, .ref r), (0, .ref lw), (1, .ref sh), (2, .ref fe), (3, .int (-2))]) hx hb dX4_allows_130 hl (Nat.le_of_ble_eq_true rfl) rfl (fun ls hl => ?_)
                    refine lv_aloadN hx hb dX4_allows_132 (lv_at hl 0 rfl) ?_
                    refine lv_ifnullN (tgt := 187) hx hb dX4_allows_134 rfl ?_
                    have hP := pl_back (cs := [(oc1 fe2 rk2 wd2 tw2 pa2 pb2 (.ref lo2) (.ref lk2) fm2), (oc4 lk2 (kd g5) (st g5) .null gb2 jt2 we2)]) (L := L) (f := f) (X := [(oc3 lw (.ref dr) (.ref tg) (.ref wy) (.ref br) (.ref bo) (.ref aa)), (oc6 tg (.ref tx) (.ref ty) (nI nt1) rt1), (oa tx cI 3 TX1), (oa ty cI 3 TY1), (oc6 wy (.ref wx) (.ref wz) (nI nw1) rw1), (oa wx cI 2 WX1), (oa wz cI 2 WY1), (oc6 dr (.ref dx) (.ref dy) (nI nd) rd), (oa dx cI cd P), (oa dy cI cd Q), (oc0 br (iI (mnI (mnI (X 0).toInt X n) P nd)) (iI (mnI (mnI (Y 0).toInt Y n) Q nd)) (iI (mxI (mxI (X 0).toInt X n) P nd)) (iI (mxI (mxI (Y 0).toInt Y n) Q nd))), (oc0 bo b5 b6 b7 b8), (oc7 sh (.ref fa) (nI ft)), (oq fa cF 200 FA), (oc1 fe rk9 wd9 tw9 pa9 pb9 (.ref lo) (.ref lk) fm9), (oc4 lk kd9 st9 (.ref r) gb9 jt9 we9), (oc6 r (.ref rx) (.ref ry) (nI n) rg), (oa rx cI cap X), (oa ry cI cap Y)]) (by rw [hT_1]; exact (show va_P (dC, dI) classes (([(oc3 lw (.ref dr) (.ref tg) (.ref wy) (.ref br) (.ref bo) (.ref aa)), (oc6 tg (.ref tx) (.ref ty) (nI nt1) rt1), (oa tx cI 3 TX1), (oa ty cI 3 TY1), (oc6 wy (.ref wx) (.ref wz) (nI nw1) rw1), (oa wx cI 2 WX1), (oa wz cI 2 WY1), (oc6 dr (.ref dx) (.ref dy) (nI nd) rd), (oa dx cI cd P), (oa dy cI cd Q), (oc0 br (iI (mnI (mnI (X 0).toInt X n) P nd)) (iI (mnI (mnI (Y 0).toInt Y n) Q nd)) (iI (mxI (mxI (X 0).toInt X n) P nd)) (iI (mxI (mxI (Y 0).toInt Y n) Q nd))), (oc0 bo b5 b6 b7 b8), (oc7 sh (.ref fa) (nI ft)), (oq fa cF 200 FA), (oc1 fe rk9 wd9 tw9 pa9 pb9 (.ref lo) (.ref lk) fm9), (oc4 lk kd9 st9 (.ref r) gb9 jt9 we9), (oc6 r (.ref rx) (.ref ry) (nI n) rg), (oa rx cI cap X), (oa ry cI cap Y)] ++ [(oc1 fe2 rk2 wd2 tw2 pa2 pb2 (.ref lo2) (.ref lk2) fm2), (oc4 lk2 (kd g5) (st g5) .null gb2 jt2 we2)]) ++ va_pl T_1 f) H from hP)) hc9_1
                    have hD : va_D A ([(oc3 lw (.ref dr) (.ref tg) (.ref wy) (.ref br) (.ref bo) (.ref aa)), (oc6 tg (.ref tx) (.ref ty) (nI nt1) rt1), (oa tx cI 3 TX1), (oa ty cI 3 TY1), (oc6 wy (.ref wx) (.ref wz) (nI nw1) rw1), (oa wx cI 2 WX1), (oa wz cI 2 WY1), (oc6 dr (.ref dx) (.ref dy) (nI nd) rd), (oa dx cI cd P), (oa dy cI cd Q), (oc0 br (iI (mnI (mnI (X 0).toInt X n) P nd)) (iI (mnI (mnI (Y 0).toInt Y n) Q nd)) (iI (mxI (mxI (X 0).toInt X n) P nd)) (iI (mxI (mxI (Y 0).toInt Y n) Q nd))), (oc0 bo b5 b6 b7 b8), (oc7 sh (.ref fa) (nI ft)), (oq fa cF 200 FA), (oc1 fe rk9 wd9 tw9 pa9 pb9 (.ref lo) (.ref lk) fm9), (oc4 lk kd9 st9 (.ref r) gb9 jt9 we9), (oc6 r (.ref rx) (.ref ry) (nI n) rg), (oa rx cI cap X), (oa ry cI cap Y)] ++ va_pl L f) := vaD_ae hD0_1 rfl
                    refine lv_iinc (v := nI (g5 + 1)) (lv' := [(7, .int (nI (g5 + 1))), (8, .null), (6, .int 6), (5, .int (nI (nd - 1))), (4, .ref r), (0, .ref lw), (1, .ref sh), (2, .ref fe), (3, .int (-2))]) hx hb dX4_allows_187 hl (k := 1) rfl (nI_add g5 1) (Nat.le_of_ble_eq_true rfl) rfl (fun ls hl => ?_)
                    refine lv_goto (tgt := 115) hx hb dX4_allows_190 rfl ?_
                    exact ih_115 (g5 + 1) nt1 TX1 TY1 rt1 nw1 WX1 WY1 rw1 b5 b6 b7 b8 H locs ls (by first | with_reducible assumption | omega) (by first | with_reducible assumption | omega) (by intro q hq; rcases Nat.lt_or_ge q g5 with h | h; exact hall q h; rw [show q = g5 by omega]; intro h1 h2; first | exact absurd hif h1 | exact absurd h2.2.1 hs2 | exact absurd h2.2.2 ht2 | exact Or.inl (by first | with_reducible assumption | assumption) | exact Or.inr (by first | with_reducible assumption | assumption)) hP hD hS (lv_sub hl [0, 2, 3, 4, 5, 6, 7, 8] rfl)
                  · skip
                    have hw2 := hwf g5 hlv2
                    have hn2 := hw2.2.1
                    have hq2 := rw_pls hrr2 hw2
                    have hkn2 := hkn g5 hlv2
                    have hcap2 := hrr2.1
                    have hcap3 := hrr2.2.1
                    have h1m2 : 1 ≤ nN (mn g5) := hw2.2.1.1
                    have hrk2 := rgK_e hrr2.2.2.2.1
                    have hc9_1 : inPl L f [(oc1 fe2 rk2 wd2 tw2 pa2 pb2 (.ref lo2) (.ref lk2) fm2), (oc4 lk2 (kd g5) (st g5) (.ref r2) gb2 jt2 we2), (oc6 r2 (.ref rx2) (.ref ry2) (nI (nN (mn g5))) rg2), (oa rx2 cI cap2 U2), (oa ry2 cI cap2 V2)] := ⟨hfe2, hlk2, hr2, hrx2, hry2, trivial⟩
                    have hD0_1 := hD
                    obtain ⟨hP, hD⟩ := pl_out hP hD [(oc1 fe2 rk2 wd2 tw2 pa2 pb2 (.ref lo2) (.ref lk2) fm2), (oc4 lk2 (kd g5) (st g5) (.ref r2) gb2 jt2 we2), (oc6 r2 (.ref rx2) (.ref ry2) (nI (nN (mn g5))) rg2), (oa rx2 cI cap2 U2), (oa ry2 cI cap2 V2)] hc9_1 (pwR hfe2.2 hlk2.2 hr2.2 hrx2.2 hry2.2 hne2)
                    generalize hT_1 : outPl L [(oc1 fe2 rk2 wd2 tw2 pa2 pb2 (.ref lo2) (.ref lk2) fm2), (oc4 lk2 (kd g5) (st g5) (.ref r2) gb2 jt2 we2), (oc6 r2 (.ref rx2) (.ref ry2) (nI (nN (mn g5))) rg2), (oa rx2 cI cap2 U2), (oa ry2 cI cap2 V2)] = T_1 at hP hD
                    obtain ⟨hP, hD⟩ : zPD (dC, dI) classes A ([(oc3 lw (.ref dr) (.ref tg) (.ref wy) (.ref br) (.ref bo) (.ref aa)), (oc6 tg (.ref tx) (.ref ty) (nI nt1) rt1), (oa tx cI 3 TX1), (oa ty cI 3 TY1), (oc6 wy (.ref wx) (.ref wz) (nI nw1) rw1), (oa wx cI 2 WX1), (oa wz cI 2 WY1), (oc6 dr (.ref dx) (.ref dy) (nI nd) rd), (oa dx cI cd P), (oa dy cI cd Q), (oc0 br (iI (mnI (mnI (X 0).toInt X n) P nd)) (iI (mnI (mnI (Y 0).toInt Y n) Q nd)) (iI (mxI (mxI (X 0).toInt X n) P nd)) (iI (mxI (mxI (Y 0).toInt Y n) Q nd))), (oc0 bo b5 b6 b7 b8), (oc7 sh (.ref fa) (nI ft)), (oq fa cF 200 FA), (oc1 fe rk9 wd9 tw9 pa9 pb9 (.ref lo) (.ref lk) fm9), (oc4 lk kd9 st9 (.ref r) gb9 jt9 we9), (oc6 r (.ref rx) (.ref ry) (nI n) rg), (oa rx cI cap X), (oa ry cI cap Y), (oc1 fe2 rk2 wd2 tw2 pa2 pb2 (.ref lo2) (.ref lk2) fm2), (oc4 lk2 (kd g5) (st g5) (.ref r2) gb2 jt2 we2), (oc6 r2 (.ref rx2) (.ref ry2) (nI (nN (mn g5))) rg2), (oa rx2 cI cap2 U2), (oa ry2 cI cap2 V2)] ++ va_pl T_1 f) H := ⟨hP, hD⟩
                    refine lv_aload_n hx hb dX4_allows_124 rfl (lv_at hl 5 rfl) ?_
                    refine lv_iload hx hb dX4_allows_125 (lv_at hl 0 rfl) ?_
                    obtain ⟨hPc, hDc, hFc⟩ := zc_sub (wc := [(oc7 sh (.ref fa) (nI ft)), (oq fa cF 200 FA), (oc1 fe2 rk2 wd2 tw2 pa2 pb2 (.ref lo2) (.ref lk2) fm2), (oc4 lk2 (kd g5) (st g5) (.ref r2) gb2 jt2 we2)]) hP hD hS hA [12, 13, 19, 20] rfl rfl
                    refine zcall (st1 := [.ref r2]) (va_runV (As := [.int (nI g5)]) (rest := []) ⟨hx, hb, hml, hown, hts⟩ (k_Sheet_rowThere_yv l dC dI cI cZ cF H.size sh fa ft FA g5 fe2 lo2 rk2 wd2 tw2 pa2 pb2 lk2 (kd g5) (st g5) gb2 jt2 we2 r2 fm2 (by first | with_reducible assumption | omega) (by first | with_reducible assumption | omega) (by first | exact hFi | exact hFA2) (by first | exact hs1 | exact hs2 | exact hlv2.2.1)) (csV_62 hts rfl rfl ⟨Nat.le_of_ble_eq_true rfl, Nat.le_of_ble_eq_true rfl⟩) (zPV2 (q0 := 0) (ci := 7) hPc hDc hK hXN rfl rfl) rfl rfl hl.1 rfl (lv_room (Nat.le_of_ble_eq_true rfl)) dX4_allows_127 ⟨Nat.le_of_ble_eq_true rfl, Nat.le_of_ble_eq_true rfl⟩) hS hFc hFc rfl (fun t H locs ht hB hk1 hS => ?_)
                    obtain ⟨hP1, hD1⟩ := hB
                    rw [ht] at hP1
                    obtain ⟨hP, hD⟩ := zkQ (W2 := [(oc3 lw (.ref dr) (.ref tg) (.ref wy) (.ref br) (.ref bo) (.ref aa)), (oc6 tg (.ref tx) (.ref ty) (nI nt1) rt1), (oa tx cI 3 TX1), (oa ty cI 3 TY1), (oc6 wy (.ref wx) (.ref wz) (nI nw1) rw1), (oa wx cI 2 WX1), (oa wz cI 2 WY1), (oc6 dr (.ref dx) (.ref dy) (nI nd) rd), (oa dx cI cd P), (oa dy cI cd Q), (oc0 br (iI (mnI (mnI (X 0).toInt X n) P nd)) (iI (mnI (mnI (Y 0).toInt Y n) Q nd)) (iI (mxI (mxI (X 0).toInt X n) P nd)) (iI (mxI (mxI (Y 0).toInt Y n) Q nd))), (oc0 bo b5 b6 b7 b8), (oc7 sh (.ref fa) (nI ft)), (oq fa cF 200 FA), (oc1 fe rk9 wd9 tw9 pa9 pb9 (.ref lo) (.ref lk) fm9), (oc4 lk kd9 st9 (.ref r) gb9 jt9 we9), (oc6 r (.ref rx) (.ref ry) (nI n) rg), (oa rx cI cap X), (oa ry cI cap Y), (oc1 fe2 rk2 wd2 tw2 pa2 pb2 (.ref lo2) (.ref lk2) fm2), (oc4 lk2 (kd g5) (st g5) (.ref r2) gb2 jt2 we2), (oc6 r2 (.ref rx2) (.ref ry2) (nI (nN (mn g5))) rg2), (oa rx2 cI cap2 U2), (oa ry2 cI cap2 V2)]) hP hD [12, 13, 19, 20] [0, 1, 2, 3, 4, 5, 6, 7, 8, 9, 10, 11, 14, 15, 16, 17, 18, 21, 22, 23] [0, 1, 2, 3, 4, 5, 6, 7, 8, 9, 10, 11, 14, 15, 16, 17, 18, 21, 22, 23] [12, 13, 19, 20] [0, 1, 2, 3, 4, 5, 6, 7, 8, 9, 10, 11, 20, 21, 12, 13, 14, 15, 16, 22, 23, 17, 18, 19] 24 rfl rfl rfl rfl rfl rfl rfl rfl rfl hk1 hFc hP1 hD1
                    clear hk1 hPc hDc hFc hP1 hD1 ht
                    refine lv_astore (lv' := [(8, .ref r2), (7, .int (nI g5)), (6, .int 6), (5, .int (nI (nd - 1))), (4, .ref r), (0, .ref lw), (1, .ref sh), (2, .ref fe), (3, .int (-2))]) hx hb dX4_allows_130 hl (Nat.le_of_ble_eq_true rfl) rfl (fun ls hl => ?_)
                    refine lv_aload hx hb dX4_allows_132 (lv_at hl 0 rfl) ?_
                    refine lv_ifnull hx hb dX4_allows_134 ?_
                    refine lv_aload_n hx hb dX4_allows_137 rfl (lv_at hl 6 rfl) ?_
                    refine lv_iload hx hb dX4_allows_138 (lv_at hl 1 rfl) ?_
                    obtain ⟨hPc, hDc, hFc⟩ := zc_sub (wc := [(oc7 sh (.ref fa) (nI ft)), (oq fa cF 200 FA)]) hP hD hS hA [12, 13] rfl rfl
                    refine zcall (st1 := [.ref fe2]) (va_runV (As := [.int (nI g5)]) (rest := []) ⟨hx, hb, hml, hown, hts⟩ (k_Sheet_find l dC dI cI cZ cF H.size sh fa ft FA g5 fe2 (by first | with_reducible assumption | omega) (by first | with_reducible assumption | omega) (by first | exact hFi | exact hFA2)) (csV_63 hts rfl rfl ⟨Nat.le_of_ble_eq_true rfl, Nat.le_of_ble_eq_true rfl⟩) (zPV2 (q0 := 0) (ci := 7) hPc hDc hK hXN rfl rfl) rfl rfl hl.1 rfl (lv_room (Nat.le_of_ble_eq_true rfl)) dX4_allows_140 ⟨Nat.le_of_ble_eq_true rfl, Nat.le_of_ble_eq_true rfl⟩) hS hFc hFc rfl (fun t H locs ht hB hk1 hS => ?_)
                    obtain ⟨hP1, hD1⟩ := hB
                    rw [ht] at hP1
                    obtain ⟨hP, hD⟩ := zkQ (W2 := [(oc3 lw (.ref dr) (.ref tg) (.ref wy) (.ref br) (.ref bo) (.ref aa)), (oc6 tg (.ref tx) (.ref ty) (nI nt1) rt1), (oa tx cI 3 TX1), (oa ty cI 3 TY1), (oc6 wy (.ref wx) (.ref wz) (nI nw1) rw1), (oa wx cI 2 WX1), (oa wz cI 2 WY1), (oc6 dr (.ref dx) (.ref dy) (nI nd) rd), (oa dx cI cd P), (oa dy cI cd Q), (oc0 br (iI (mnI (mnI (X 0).toInt X n) P nd)) (iI (mnI (mnI (Y 0).toInt Y n) Q nd)) (iI (mxI (mxI (X 0).toInt X n) P nd)) (iI (mxI (mxI (Y 0).toInt Y n) Q nd))), (oc0 bo b5 b6 b7 b8), (oc7 sh (.ref fa) (nI ft)), (oq fa cF 200 FA), (oc1 fe rk9 wd9 tw9 pa9 pb9 (.ref lo) (.ref lk) fm9), (oc4 lk kd9 st9 (.ref r) gb9 jt9 we9), (oc6 r (.ref rx) (.ref ry) (nI n) rg), (oa rx cI cap X), (oa ry cI cap Y), (oc1 fe2 rk2 wd2 tw2 pa2 pb2 (.ref lo2) (.ref lk2) fm2), (oc4 lk2 (kd g5) (st g5) (.ref r2) gb2 jt2 we2), (oc6 r2 (.ref rx2) (.ref ry2) (nI (nN (mn g5))) rg2), (oa rx2 cI cap2 U2), (oa ry2 cI cap2 V2)]) hP hD [12, 13] [0, 1, 2, 3, 4, 5, 6, 7, 8, 9, 10, 11, 14, 15, 16, 17, 18, 19, 20, 21, 22, 23] [0, 1, 2, 3, 4, 5, 6, 7, 8, 9, 10, 11, 14, 15, 16, 17, 18, 19, 20, 21, 22, 23] [12, 13] [0, 1, 2, 3, 4, 5, 6, 7, 8, 9, 10, 11, 22, 23, 12, 13, 14, 15, 16, 17, 18, 19, 20, 21] 24 rfl rfl rfl rfl rfl rfl rfl rfl rfl hk1 hFc hP1 hD1
                    clear hk1 hPc hDc hFc hP1 hD1 ht
                    refine lv_aload_n hx hb dX4_allows_143 rfl (lv_at hl 7 rfl) ?_
                    refine z_acmpne (rx := fe2) (ry := fe) (tgt := 150) hx hb dX4_allows_144 (by decide) (fun c_11 => ?_) (fun c_11 => ?_)
                    · have c_11 : ¬ fe2 = fe := c_11
                      refine lv_aload_n hx hb dX4_allows_150 rfl (lv_at hl 5 rfl) ?_
                      refine va_get (D := (dC, dI)) (ci := 3) (v := .ref bo) (C := RX4) (T := TX4) (N := 6) hx hb hts inX4 hown hK hP 0 rfl rfl 4 (Nat.le_of_ble_eq_true rfl) (hts _ mw_224) (fun _ h9 => h9) rfl dX4_allows_151 ?_
                      refine lv_aload hx hb dX4_allows_154 (lv_at hl 0 rfl) ?_
                      obtain ⟨hPc, hDc, hFc⟩ := zc_sub (wc := [(oc0 bo b5 b6 b7 b8), (oc6 r2 (.ref rx2) (.ref ry2) (nI (nN (mn g5))) rg2), (oa rx2 cI cap2 U2), (oa ry2 cI cap2 V2)]) hP hD hS hA [11, 21, 22, 23] rfl rfl
                      refine zcall (st1 := []) (va_runV (As := [.ref r2]) (rest := []) ⟨hx, hb, hml, hown, hts⟩ (k_Box_cover l dC dI cI cZ cF H.size bo b5 b6 b7 b8 r2 rx2 ry2 (nN (mn g5)) cap2 U2 V2 rg2 (by first | with_reducible assumption | omega) (by first | with_reducible assumption | omega) ((pls_nr hq2).1) ((pls_nr hq2).2) (by first | with_reducible assumption | omega)) (csV_52 hts rfl rfl ⟨Nat.le_of_ble_eq_true rfl, Nat.le_of_ble_eq_true rfl⟩) (zPV2 (q0 := 0) (ci := 0) hPc hDc hK hXN rfl rfl) rfl rfl hl.1 rfl (lv_room (Nat.le_of_ble_eq_true rfl)) dX4_allows_156 ⟨Nat.le_of_ble_eq_true rfl, Nat.le_of_ble_eq_true rfl⟩) hS hFc hFc rfl (fun t H locs ht hB hk1 hS => ?_)
                      obtain ⟨hP1, hD1⟩ := hB
                      rw [ht] at hP1
                      obtain ⟨hP, hD⟩ := zkQ (W2 := [(oc3 lw (.ref dr) (.ref tg) (.ref wy) (.ref br) (.ref bo) (.ref aa)), (oc6 tg (.ref tx) (.ref ty) (nI nt1) rt1), (oa tx cI 3 TX1), (oa ty cI 3 TY1), (oc6 wy (.ref wx) (.ref wz) (nI nw1) rw1), (oa wx cI 2 WX1), (oa wz cI 2 WY1), (oc6 dr (.ref dx) (.ref dy) (nI nd) rd), (oa dx cI cd P), (oa dy cI cd Q), (oc0 br (iI (mnI (mnI (X 0).toInt X n) P nd)) (iI (mnI (mnI (Y 0).toInt Y n) Q nd)) (iI (mxI (mxI (X 0).toInt X n) P nd)) (iI (mxI (mxI (Y 0).toInt Y n) Q nd))), (oc0 bo (iI (mnI (U2 0).toInt U2 (nN (mn g5)))) (iI (mnI (V2 0).toInt V2 (nN (mn g5)))) (iI (mxI (U2 0).toInt U2 (nN (mn g5)))) (iI (mxI (V2 0).toInt V2 (nN (mn g5))))), (oc7 sh (.ref fa) (nI ft)), (oq fa cF 200 FA), (oc1 fe rk9 wd9 tw9 pa9 pb9 (.ref lo) (.ref lk) fm9), (oc4 lk kd9 st9 (.ref r) gb9 jt9 we9), (oc6 r (.ref rx) (.ref ry) (nI n) rg), (oa rx cI cap X), (oa ry cI cap Y), (oc1 fe2 rk2 wd2 tw2 pa2 pb2 (.ref lo2) (.ref lk2) fm2), (oc4 lk2 (kd g5) (st g5) (.ref r2) gb2 jt2 we2), (oc6 r2 (.ref rx2) (.ref ry2) (nI (nN (mn g5))) rg2), (oa rx2 cI cap2 U2), (oa ry2 cI cap2 V2)]) hP hD [11, 21, 22, 23] [0, 1, 2, 3, 4, 5, 6, 7, 8, 9, 10, 12, 13, 14, 15, 16, 17, 18, 19, 20] [0, 1, 2, 3, 4, 5, 6, 7, 8, 9, 10, 12, 13, 14, 15, 16, 17, 18, 19, 20] [11, 21, 22, 23] [0, 1, 2, 3, 4, 5, 6, 7, 8, 9, 10, 20, 11, 12, 13, 14, 15, 16, 17, 18, 19, 21, 22, 23] 24 rfl rfl rfl rfl rfl rfl rfl rfl rfl hk1 hFc hP1 hD1
                      clear hk1 hPc hDc hFc hP1 hD1 ht
                      refine lv_aload_n hx hb dX4_allows_159 rfl (lv_at hl 5 rfl) ?_
                      refine va_get (D := (dC, dI)) (ci := 3) (v := .ref br) (C := RX4) (T := TX4) (N := 6) hx hb hts inX4 hown hK hP 0 rfl rfl 3 (Nat.le_of_ble_eq_true rfl) (hts _ mw_223) (fun _ h9 => h9) rfl dX4_allows_160 ?_
                      refine lv_aload_n hx hb dX4_allows_163 rfl (lv_at hl 5 rfl) ?_
                      refine va_get (D := (dC, dI)) (ci := 3) (v := .ref bo) (C := RX4) (T := TX4) (N := 6) hx hb hts inX4 hown hK hP 0 rfl rfl 4 (Nat.le_of_ble_eq_true rfl) (hts _ mw_224) (fun _ h9 => h9) rfl dX4_allows_164 ?_
                      obtain ⟨hPc, hDc, hFc⟩ := zc_sub (wc := [(oc0 br (iI (mnI (mnI (X 0).toInt X n) P nd)) (iI (mnI (mnI (Y 0).toInt Y n) Q nd)) (iI (mxI (mxI (X 0).toInt X n) P nd)) (iI (mxI (mxI (Y 0).toInt Y n) Q nd))), (oc0 bo (iI (mnI (U2 0).toInt U2 (nN (mn g5)))) (iI (mnI (V2 0).toInt V2 (nN (mn g5)))) (iI (mxI (U2 0).toInt U2 (nN (mn g5)))) (iI (mxI (V2 0).toInt V2 (nN (mn g5)))))]) hP hD hS hA [10, 11] rfl rfl
                      refine zcall (st1 := [.int (pI ((mxI (mxI (X 0).toInt X n) P nd) < (mnI (U2 0).toInt U2 (nN (mn g5))) ∨ (mxI (U2 0).toInt U2 (nN (mn g5))) < (mnI (mnI (X 0).toInt X n) P nd) ∨ (mxI (mxI (Y 0).toInt Y n) Q nd) < (mnI (V2 0).toInt V2 (nN (mn g5))) ∨ (mxI (V2 0).toInt V2 (nN (mn g5))) < (mnI (mnI (Y 0).toInt Y n) Q nd)))]) (va_runV (As := [.ref bo]) (rest := []) ⟨hx, hb, hml, hown, hts⟩ (k_Box_isApart l dC dI cI cZ cF H.size br (mnI (mnI (X 0).toInt X n) P nd) (mnI (mnI (Y 0).toInt Y n) Q nd) (mxI (mxI (X 0).toInt X n) P nd) (mxI (mxI (Y 0).toInt Y n) Q nd) bo (mnI (U2 0).toInt U2 (nN (mn g5))) (mnI (V2 0).toInt V2 (nN (mn g5))) (mxI (U2 0).toInt U2 (nN (mn g5))) (mxI (V2 0).toInt V2 (nN (mn g5))) (hbr) (⟨mnB ((pls_nr hq2).1 0 (by first | with_reducible assumption | omega)) (pls_nr hq2).1 _ (Nat.le_refl _), mnB ((pls_nr hq2).2 0 (by first | with_reducible assumption | omega)) (pls_nr hq2).2 _ (Nat.le_refl _), mxB ((pls_nr hq2).1 0 (by first | with_reducible assumption | omega)) (pls_nr hq2).1 _ (Nat.le_refl _), mxB ((pls_nr hq2).2 0 (by first | with_reducible assumption | omega)) (pls_nr hq2).2 _ (Nat.le_refl _)⟩)) (csV_68 hts rfl rfl ⟨Nat.le_of_ble_eq_true rfl, Nat.le_of_ble_eq_true rfl⟩) (zPV2 (q0 := 0) (ci := 0) hPc hDc hK hXN rfl rfl) rfl rfl hl.1 rfl (lv_room (Nat.le_of_ble_eq_true rfl)) dX4_allows_167 ⟨Nat.le_of_ble_eq_true rfl, Nat.le_of_ble_eq_true rfl⟩) hS hFc hFc rfl (fun t H locs ht hB hk1 hS => ?_)
                      obtain ⟨hP1, hD1⟩ := hB
                      rw [ht] at hP1
                      obtain ⟨hP, hD⟩ := zkQ (W2 := [(oc3 lw (.ref dr) (.ref tg) (.ref wy) (.ref br) (.ref bo) (.ref aa)), (oc6 tg (.ref tx) (.ref ty) (nI nt1) rt1), (oa tx cI 3 TX1), (oa ty cI 3 TY1), (oc6 wy (.ref wx) (.ref wz) (nI nw1) rw1), (oa wx cI 2 WX1), (oa wz cI 2 WY1), (oc6 dr (.ref dx) (.ref dy) (nI nd) rd), (oa dx cI cd P), (oa dy cI cd Q), (oc0 br (iI (mnI (mnI (X 0).toInt X n) P nd)) (iI (mnI (mnI (Y 0).toInt Y n) Q nd)) (iI (mxI (mxI (X 0).toInt X n) P nd)) (iI (mxI (mxI (Y 0).toInt Y n) Q nd))), (oc0 bo (iI (mnI (U2 0).toInt U2 (nN (mn g5)))) (iI (mnI (V2 0).toInt V2 (nN (mn g5)))) (iI (mxI (U2 0).toInt U2 (nN (mn g5)))) (iI (mxI (V2 0).toInt V2 (nN (mn g5))))), (oc7 sh (.ref fa) (nI ft)), (oq fa cF 200 FA), (oc1 fe rk9 wd9 tw9 pa9 pb9 (.ref lo) (.ref lk) fm9), (oc4 lk kd9 st9 (.ref r) gb9 jt9 we9), (oc6 r (.ref rx) (.ref ry) (nI n) rg), (oa rx cI cap X), (oa ry cI cap Y), (oc1 fe2 rk2 wd2 tw2 pa2 pb2 (.ref lo2) (.ref lk2) fm2), (oc4 lk2 (kd g5) (st g5) (.ref r2) gb2 jt2 we2), (oc6 r2 (.ref rx2) (.ref ry2) (nI (nN (mn g5))) rg2), (oa rx2 cI cap2 U2), (oa ry2 cI cap2 V2)]) hP hD [10, 11] [0, 1, 2, 3, 4, 5, 6, 7, 8, 9, 12, 13, 14, 15, 16, 17, 18, 19, 20, 21, 22, 23] [0, 1, 2, 3, 4, 5, 6, 7, 8, 9, 12, 13, 14, 15, 16, 17, 18, 19, 20, 21, 22, 23] [10, 11] [0, 1, 2, 3, 4, 5, 6, 7, 8, 9, 22, 23, 10, 11, 12, 13, 14, 15, 16, 17, 18, 19, 20, 21] 24 rfl rfl rfl rfl rfl rfl rfl rfl rfl hk1 hFc hP1 hD1
                      clear hk1 hPc hDc hFc hP1 hD1 ht
                      refine zz_i (v := pI (apB (mnI (mnI (X 0).toInt X n) P nd) (mnI (mnI (Y 0).toInt Y n) Q nd) (mxI (mxI (X 0).toInt X n) P nd) (mxI (mxI (Y 0).toInt Y n) Q nd) (nN (mn g5)) (cF40 cx g5) (cF40 cy g5))) (zp_iff (apB_cg h1m2 hrr2.2.2.2.2)) ?_
                      refine lv_if_ne (tgt := 187) hx hb dX4_allows_170 rfl (fun c_12 => ?_) (fun c_12 => ?_)
                      · have c_12 : apB (mnI (mnI (X 0).toInt X n) P nd) (mnI (mnI (Y 0).toInt Y n) Q nd) (mxI (mxI (X 0).toInt X n) P nd) (mxI (mxI (Y 0).toInt Y n) Q nd) (nN (mn g5)) (cF40 cx g5) (cF40 cy g5) := zp_1 c_12
                        have hP := pl_back (cs := [(oc1 fe2 rk2 wd2 tw2 pa2 pb2 (.ref lo2) (.ref lk2) fm2), (oc4 lk2 (kd g5) (st g5) (.ref r2) gb2 jt2 we2), (oc6 r2 (.ref rx2) (.ref ry2) (nI (nN (mn g5))) rg2), (oa rx2 cI cap2 U2), (oa ry2 cI cap2 V2)]) (L := L) (f := f) (X := [(oc3 lw (.ref dr) (.ref tg) (.ref wy) (.ref br) (.ref bo) (.ref aa)), (oc6 tg (.ref tx) (.ref ty) (nI nt1) rt1), (oa tx cI 3 TX1), (oa ty cI 3 TY1), (oc6 wy (.ref wx) (.ref wz) (nI nw1) rw1), (oa wx cI 2 WX1), (oa wz cI 2 WY1), (oc6 dr (.ref dx) (.ref dy) (nI nd) rd), (oa dx cI cd P), (oa dy cI cd Q), (oc0 br (iI (mnI (mnI (X 0).toInt X n) P nd)) (iI (mnI (mnI (Y 0).toInt Y n) Q nd)) (iI (mxI (mxI (X 0).toInt X n) P nd)) (iI (mxI (mxI (Y 0).toInt Y n) Q nd))), (oc0 bo (iI (mnI (U2 0).toInt U2 (nN (mn g5)))) (iI (mnI (V2 0).toInt V2 (nN (mn g5)))) (iI (mxI (U2 0).toInt U2 (nN (mn g5)))) (iI (mxI (V2 0).toInt V2 (nN (mn g5))))), (oc7 sh (.ref fa) (nI ft)), (oq fa cF 200 FA), (oc1 fe rk9 wd9 tw9 pa9 pb9 (.ref lo) (.ref lk) fm9), (oc4 lk kd9 st9 (.ref r) gb9 jt9 we9), (oc6 r (.ref rx) (.ref ry) (nI n) rg), (oa rx cI cap X), (oa ry cI cap Y)]) (by rw [hT_1]; exact (show va_P (dC, dI) classes (([(oc3 lw (.ref dr) (.ref tg) (.ref wy) (.ref br) (.ref bo) (.ref aa)), (oc6 tg (.ref tx) (.ref ty) (nI nt1) rt1), (oa tx cI 3 TX1), (oa ty cI 3 TY1), (oc6 wy (.ref wx) (.ref wz) (nI nw1) rw1), (oa wx cI 2 WX1), (oa wz cI 2 WY1), (oc6 dr (.ref dx) (.ref dy) (nI nd) rd), (oa dx cI cd P), (oa dy cI cd Q), (oc0 br (iI (mnI (mnI (X 0).toInt X n) P nd)) (iI (mnI (mnI (Y 0).toInt Y n) Q nd)) (iI (mxI (mxI (X 0).toInt X n) P nd)) (iI (mxI (mxI (Y 0).toInt Y n) Q nd))), (oc0 bo (iI (mnI (U2 0).toInt U2 (nN (mn g5)))) (iI (mnI (V2 0).toInt V2 (nN (mn g5)))) (iI (mxI (U2 0).toInt U2 (nN (mn g5)))) (iI (mxI (V2 0).toInt V2 (nN (mn g5))))), (oc7 sh (.ref fa) (nI ft)), (oq fa cF 200 FA), (oc1 fe rk9 wd9 tw9 pa9 pb9 (.ref lo) (.ref lk) fm9), (oc4 lk kd9 st9 (.ref r) gb9 jt9 we9), (oc6 r (.ref rx) (.ref ry) (nI n) rg), (oa rx cI cap X), (oa ry cI cap Y)] ++ [(oc1 fe2 rk2 wd2 tw2 pa2 pb2 (.ref lo2) (.ref lk2) fm2), (oc4 lk2 (kd g5) (st g5) (.ref r2) gb2 jt2 we2), (oc6 r2 (.ref rx2) (.ref ry2) (nI (nN (mn g5))) rg2), (oa rx2 cI cap2 U2), (oa ry2 cI cap2 V2)]) ++ va_pl T_1 f) H from hP)) hc9_1
                        have hD : va_D A ([(oc3 lw (.ref dr) (.ref tg) (.ref wy) (.ref br) (.ref bo) (.ref aa)), (oc6 tg (.ref tx) (.ref ty) (nI nt1) rt1), (oa tx cI 3 TX1), (oa ty cI 3 TY1), (oc6 wy (.ref wx) (.ref wz) (nI nw1) rw1), (oa wx cI 2 WX1), (oa wz cI 2 WY1), (oc6 dr (.ref dx) (.ref dy) (nI nd) rd), (oa dx cI cd P), (oa dy cI cd Q), (oc0 br (iI (mnI (mnI (X 0).toInt X n) P nd)) (iI (mnI (mnI (Y 0).toInt Y n) Q nd)) (iI (mxI (mxI (X 0).toInt X n) P nd)) (iI (mxI (mxI (Y 0).toInt Y n) Q nd))), (oc0 bo (iI (mnI (U2 0).toInt U2 (nN (mn g5)))) (iI (mnI (V2 0).toInt V2 (nN (mn g5)))) (iI (mxI (U2 0).toInt U2 (nN (mn g5)))) (iI (mxI (V2 0).toInt V2 (nN (mn g5))))), (oc7 sh (.ref fa) (nI ft)), (oq fa cF 200 FA), (oc1 fe rk9 wd9 tw9 pa9 pb9 (.ref lo) (.ref lk) fm9), (oc4 lk kd9 st9 (.ref r) gb9 jt9 we9), (oc6 r (.ref rx) (.ref ry) (nI n) rg), (oa rx cI cap X), (oa ry cI cap Y)] ++ va_pl L f) := vaD_ae hD0_1 rfl
                        refine lv_iinc (v := nI (g5 + 1)) (lv' := [(7, .int (nI (g5 + 1))), (8, .ref r2), (6, .int 6), (5, .int (nI (nd - 1))), (4, .ref r), (0, .ref lw), (1, .ref sh), (2, .ref fe), (3, .int (-2))]) hx hb dX4_allows_187 hl (k := 1) rfl (nI_add g5 1) (Nat.le_of_ble_eq_true rfl) rfl (fun ls hl => ?_)
                        refine lv_goto (tgt := 115) hx hb dX4_allows_190 rfl ?_
                        exact ih_115 (g5 + 1) nt1 TX1 TY1 rt1 nw1 WX1 WY1 rw1 (iI (mnI (U2 0).toInt U2 (nN (mn g5)))) (iI (mnI (V2 0).toInt V2 (nN (mn g5)))) (iI (mxI (U2 0).toInt U2 (nN (mn g5)))) (iI (mxI (V2 0).toInt V2 (nN (mn g5)))) H locs ls (by first | with_reducible assumption | omega) (by first | with_reducible assumption | omega) (by intro q hq; rcases Nat.lt_or_ge q g5 with h | h; exact hall q h; rw [show q = g5 by omega]; intro h1 h2; first | exact absurd hif h1 | exact absurd h2.2.1 hs2 | exact absurd h2.2.2 ht2 | exact Or.inl (by first | with_reducible assumption | assumption) | exact Or.inr (by first | with_reducible assumption | assumption)) hP hD hS (lv_sub hl [0, 2, 3, 4, 5, 6, 7, 8] rfl)
                      · have c_12 : ¬ (apB (mnI (mnI (X 0).toInt X n) P nd) (mnI (mnI (Y 0).toInt Y n) Q nd) (mxI (mxI (X 0).toInt X n) P nd) (mxI (mxI (Y 0).toInt Y n) Q nd) (nN (mn g5)) (cF40 cx g5) (cF40 cy g5)) := zp_0 c_12
                        refine lv_aload_n hx hb dX4_allows_173 rfl (lv_at hl 5 rfl) ?_
                        refine lv_aload hx hb dX4_allows_174 (lv_at hl 4 rfl) ?_
                        refine lv_aload hx hb dX4_allows_176 (lv_at hl 0 rfl) ?_
                        refine lv_iload_n hx hb dX4_allows_178 rfl (lv_at hl 8 rfl) ?_
                        obtain ⟨hPc, hDc, hFc⟩ := zc_sub (wc := [(oc3 lw (.ref dr) (.ref tg) (.ref wy) (.ref br) (.ref bo) (.ref aa)), (oc6 tg (.ref tx) (.ref ty) (nI nt1) rt1), (oa tx cI 3 TX1), (oa ty cI 3 TY1), (oc6 wy (.ref wx) (.ref wz) (nI nw1) rw1), (oa wx cI 2 WX1), (oa wz cI 2 WY1), (oc6 dr (.ref dx) (.ref dy) (nI nd) rd), (oa dx cI cd P), (oa dy cI cd Q), (oc6 r (.ref rx) (.ref ry) (nI n) rg), (oa rx cI cap X), (oa ry cI cap Y), (oc6 r2 (.ref rx2) (.ref ry2) (nI (nN (mn g5))) rg2), (oa rx2 cI cap2 U2), (oa ry2 cI cap2 V2)]) hP hD hS hA [0, 1, 2, 3, 4, 5, 6, 7, 8, 9, 16, 17, 18, 21, 22, 23] rfl rfl
                        refine zcall (st1 := [.int (pI (asb n X Y rg nd P Q rd (nN (mn g5)) U2 V2 rg2))]) (va_runV (As := [.ref r, .ref r2, .int (-2)]) (rest := []) ⟨hx, hb, hml, hown, hts⟩ (k_Law_isAsBefore_b l dC dI cI cZ cF H.size lw dr tg wy br bo aa tx ty nt1 TX1 TY1 rt1 wx wz nw1 WX1 WY1 rw1 dx dy nd cd P Q rd r rx ry n cap X Y rg r2 rx2 ry2 (nN (mn g5)) cap2 U2 V2 rg2 (by first | with_reducible assumption | omega) (by first | with_reducible assumption | omega) (by first | with_reducible assumption | assumption) (by first | with_reducible assumption | omega) (by first | with_reducible assumption | omega) (hp) (by first | with_reducible assumption | omega) (by first | with_reducible assumption | omega) (hq2) (by first | with_reducible assumption | omega) (by first | with_reducible assumption | omega) (by first | with_reducible assumption | omega) (by first | with_reducible assumption | omega)) (csV_69 hts rfl rfl ⟨Nat.le_of_ble_eq_true rfl, Nat.le_of_ble_eq_true rfl⟩) (zPV2 (q0 := 0) (ci := 3) hPc hDc hK hXN rfl rfl) rfl rfl hl.1 rfl (lv_room (Nat.le_of_ble_eq_true rfl)) dX4_allows_179 ⟨Nat.le_of_ble_eq_true rfl, Nat.le_of_ble_eq_true rfl⟩) hS hFc hFc rfl (fun t H locs ht hB hk1 hS => ?_)
                        obtain ⟨q_13, q_14, q_15, q_16, q_17, q_18, q_19, q_20, hP1, hD1⟩ := hB
                        rw [ht] at hP1
                        obtain ⟨hP, hD⟩ := zkQ (W2 := [(oc3 lw (.ref dr) (.ref tg) (.ref wy) (.ref br) (.ref bo) (.ref aa)), (oc6 tg (.ref tx) (.ref ty) (nI q_13) q_16), (oa tx cI 3 q_14), (oa ty cI 3 q_15), (oc6 wy (.ref wx) (.ref wz) (nI q_17) q_20), (oa wx cI 2 q_18), (oa wz cI 2 q_19), (oc6 dr (.ref dx) (.ref dy) (nI nd) rd), (oa dx cI cd P), (oa dy cI cd Q), (oc0 br (iI (mnI (mnI (X 0).toInt X n) P nd)) (iI (mnI (mnI (Y 0).toInt Y n) Q nd)) (iI (mxI (mxI (X 0).toInt X n) P nd)) (iI (mxI (mxI (Y 0).toInt Y n) Q nd))), (oc0 bo (iI (mnI (U2 0).toInt U2 (nN (mn g5)))) (iI (mnI (V2 0).toInt V2 (nN (mn g5)))) (iI (mxI (U2 0).toInt U2 (nN (mn g5)))) (iI (mxI (V2 0).toInt V2 (nN (mn g5))))), (oc7 sh (.ref fa) (nI ft)), (oq fa cF 200 FA), (oc1 fe rk9 wd9 tw9 pa9 pb9 (.ref lo) (.ref lk) fm9), (oc4 lk kd9 st9 (.ref r) gb9 jt9 we9), (oc6 r (.ref rx) (.ref ry) (nI n) rg), (oa rx cI cap X), (oa ry cI cap Y), (oc1 fe2 rk2 wd2 tw2 pa2 pb2 (.ref lo2) (.ref lk2) fm2), (oc4 lk2 (kd g5) (st g5) (.ref r2) gb2 jt2 we2), (oc6 r2 (.ref rx2) (.ref ry2) (nI (nN (mn g5))) rg2), (oa rx2 cI cap2 U2), (oa ry2 cI cap2 V2)]) hP hD [0, 1, 2, 3, 4, 5, 6, 7, 8, 9, 16, 17, 18, 21, 22, 23] [10, 11, 12, 13, 14, 15, 19, 20] [10, 11, 12, 13, 14, 15, 19, 20] [0, 1, 2, 3, 4, 5, 6, 7, 8, 9, 16, 17, 18, 21, 22, 23] [8, 9, 10, 11, 12, 13, 14, 15, 16, 17, 0, 1, 2, 3, 4, 5, 18, 19, 20, 6, 7, 21, 22, 23] 24 rfl rfl rfl rfl rfl rfl rfl rfl rfl hk1 hFc hP1 hD1
                        clear hk1 hPc hDc hFc hP1 hD1 ht
                        refine zz_i (v := pI (asb n X Y rg nd P Q rd (nN (mn g5)) (cF40 cx g5) (cF40 cy g5) (rgK (kd g5).toInt))) (by rw [← hrk2]; exact zp_iff (asb_cg h1m2 hrr2.2.2.2.2)) ?_
                        refine lv_if_ne (tgt := 187) hx hb dX4_allows_182 rfl (fun c_21 => ?_) (fun c_21 => ?_)
                        · have c_21 : asb n X Y rg nd P Q rd (nN (mn g5)) (cF40 cx g5) (cF40 cy g5) (rgK (kd g5).toInt) := zp_1 c_21
                          have hP := pl_back (cs := [(oc1 fe2 rk2 wd2 tw2 pa2 pb2 (.ref lo2) (.ref lk2) fm2), (oc4 lk2 (kd g5) (st g5) (.ref r2) gb2 jt2 we2), (oc6 r2 (.ref rx2) (.ref ry2) (nI (nN (mn g5))) rg2), (oa rx2 cI cap2 U2), (oa ry2 cI cap2 V2)]) (L := L) (f := f) (X := [(oc3 lw (.ref dr) (.ref tg) (.ref wy) (.ref br) (.ref bo) (.ref aa)), (oc6 tg (.ref tx) (.ref ty) (nI q_13) q_16), (oa tx cI 3 q_14), (oa ty cI 3 q_15), (oc6 wy (.ref wx) (.ref wz) (nI q_17) q_20), (oa wx cI 2 q_18), (oa wz cI 2 q_19), (oc6 dr (.ref dx) (.ref dy) (nI nd) rd), (oa dx cI cd P), (oa dy cI cd Q), (oc0 br (iI (mnI (mnI (X 0).toInt X n) P nd)) (iI (mnI (mnI (Y 0).toInt Y n) Q nd)) (iI (mxI (mxI (X 0).toInt X n) P nd)) (iI (mxI (mxI (Y 0).toInt Y n) Q nd))), (oc0 bo (iI (mnI (U2 0).toInt U2 (nN (mn g5)))) (iI (mnI (V2 0).toInt V2 (nN (mn g5)))) (iI (mxI (U2 0).toInt U2 (nN (mn g5)))) (iI (mxI (V2 0).toInt V2 (nN (mn g5))))), (oc7 sh (.ref fa) (nI ft)), (oq fa cF 200 FA), (oc1 fe rk9 wd9 tw9 pa9 pb9 (.ref lo) (.ref lk) fm9), (oc4 lk kd9 st9 (.ref r) gb9 jt9 we9), (oc6 r (.ref rx) (.ref ry) (nI n) rg), (oa rx cI cap X), (oa ry cI cap Y)]) (by rw [hT_1]; exact (show va_P (dC, dI) classes (([(oc3 lw (.ref dr) (.ref tg) (.ref wy) (.ref br) (.ref bo) (.ref aa)), (oc6 tg (.ref tx) (.ref ty) (nI q_13) q_16), (oa tx cI 3 q_14), (oa ty cI 3 q_15), (oc6 wy (.ref wx) (.ref wz) (nI q_17) q_20), (oa wx cI 2 q_18), (oa wz cI 2 q_19), (oc6 dr (.ref dx) (.ref dy) (nI nd) rd), (oa dx cI cd P), (oa dy cI cd Q), (oc0 br (iI (mnI (mnI (X 0).toInt X n) P nd)) (iI (mnI (mnI (Y 0).toInt Y n) Q nd)) (iI (mxI (mxI (X 0).toInt X n) P nd)) (iI (mxI (mxI (Y 0).toInt Y n) Q nd))), (oc0 bo (iI (mnI (U2 0).toInt U2 (nN (mn g5)))) (iI (mnI (V2 0).toInt V2 (nN (mn g5)))) (iI (mxI (U2 0).toInt U2 (nN (mn g5)))) (iI (mxI (V2 0).toInt V2 (nN (mn g5))))), (oc7 sh (.ref fa) (nI ft)), (oq fa cF 200 FA), (oc1 fe rk9 wd9 tw9 pa9 pb9 (.ref lo) (.ref lk) fm9), (oc4 lk kd9 st9 (.ref r) gb9 jt9 we9), (oc6 r (.ref rx) (.ref ry) (nI n) rg), (oa rx cI cap X), (oa ry cI cap Y)] ++ [(oc1 fe2 rk2 wd2 tw2 pa2 pb2 (.ref lo2) (.ref lk2) fm2), (oc4 lk2 (kd g5) (st g5) (.ref r2) gb2 jt2 we2), (oc6 r2 (.ref rx2) (.ref ry2) (nI (nN (mn g5))) rg2), (oa rx2 cI cap2 U2), (oa ry2 cI cap2 V2)]) ++ va_pl T_1 f) H from hP)) hc9_1
                          have hD : va_D A ([(oc3 lw (.ref dr) (.ref tg) (.ref wy) (.ref br) (.ref bo) (.ref aa)), (oc6 tg (.ref tx) (.ref ty) (nI q_13) q_16), (oa tx cI 3 q_14), (oa ty cI 3 q_15), (oc6 wy (.ref wx) (.ref wz) (nI q_17) q_20), (oa wx cI 2 q_18), (oa wz cI 2 q_19), (oc6 dr (.ref dx) (.ref dy) (nI nd) rd), (oa dx cI cd P), (oa dy cI cd Q), (oc0 br (iI (mnI (mnI (X 0).toInt X n) P nd)) (iI (mnI (mnI (Y 0).toInt Y n) Q nd)) (iI (mxI (mxI (X 0).toInt X n) P nd)) (iI (mxI (mxI (Y 0).toInt Y n) Q nd))), (oc0 bo (iI (mnI (U2 0).toInt U2 (nN (mn g5)))) (iI (mnI (V2 0).toInt V2 (nN (mn g5)))) (iI (mxI (U2 0).toInt U2 (nN (mn g5)))) (iI (mxI (V2 0).toInt V2 (nN (mn g5))))), (oc7 sh (.ref fa) (nI ft)), (oq fa cF 200 FA), (oc1 fe rk9 wd9 tw9 pa9 pb9 (.ref lo) (.ref lk) fm9), (oc4 lk kd9 st9 (.ref r) gb9 jt9 we9), (oc6 r (.ref rx) (.ref ry) (nI n) rg), (oa rx cI cap X), (oa ry cI cap Y)] ++ va_pl L f) := vaD_ae hD0_1 rfl
                          refine lv_iinc (v := nI (g5 + 1)) (lv' := [(7, .int (nI (g5 + 1))), (8, .ref r2), (6, .int 6), (5, .int (nI (nd - 1))), (4, .ref r), (0, .ref lw), (1, .ref sh), (2, .ref fe), (3, .int (-2))]) hx hb dX4_allows_187 hl (k := 1) rfl (nI_add g5 1) (Nat.le_of_ble_eq_true rfl) rfl (fun ls hl => ?_)
                          refine lv_goto (tgt := 115) hx hb dX4_allows_190 rfl ?_
                          exact ih_115 (g5 + 1) q_13 q_14 q_15 q_16 q_17 q_18 q_19 q_20 (iI (mnI (U2 0).toInt U2 (nN (mn g5)))) (iI (mnI (V2 0).toInt V2 (nN (mn g5)))) (iI (mxI (U2 0).toInt U2 (nN (mn g5)))) (iI (mxI (V2 0).toInt V2 (nN (mn g5)))) H locs ls (by first | with_reducible assumption | omega) (by first | with_reducible assumption | omega) (by intro q hq; rcases Nat.lt_or_ge q g5 with h | h; exact hall q h; rw [show q = g5 by omega]; intro h1 h2; first | exact absurd hif h1 | exact absurd h2.2.1 hs2 | exact absurd h2.2.2 ht2 | exact Or.inl (by first | with_reducible assumption | assumption) | exact Or.inr (by first | with_reducible assumption | assumption)) hP hD hS (lv_sub hl [0, 2, 3, 4, 5, 6, 7, 8] rfl)
                        · have c_21 : ¬ (asb n X Y rg nd P Q rd (nN (mn g5)) (cF40 cx g5) (cF40 cy g5) (rgK (kd g5).toInt)) := zp_0 c_21
                          have hP := pl_back (cs := [(oc1 fe2 rk2 wd2 tw2 pa2 pb2 (.ref lo2) (.ref lk2) fm2), (oc4 lk2 (kd g5) (st g5) (.ref r2) gb2 jt2 we2), (oc6 r2 (.ref rx2) (.ref ry2) (nI (nN (mn g5))) rg2), (oa rx2 cI cap2 U2), (oa ry2 cI cap2 V2)]) (L := L) (f := f) (X := [(oc3 lw (.ref dr) (.ref tg) (.ref wy) (.ref br) (.ref bo) (.ref aa)), (oc6 tg (.ref tx) (.ref ty) (nI q_13) q_16), (oa tx cI 3 q_14), (oa ty cI 3 q_15), (oc6 wy (.ref wx) (.ref wz) (nI q_17) q_20), (oa wx cI 2 q_18), (oa wz cI 2 q_19), (oc6 dr (.ref dx) (.ref dy) (nI nd) rd), (oa dx cI cd P), (oa dy cI cd Q), (oc0 br (iI (mnI (mnI (X 0).toInt X n) P nd)) (iI (mnI (mnI (Y 0).toInt Y n) Q nd)) (iI (mxI (mxI (X 0).toInt X n) P nd)) (iI (mxI (mxI (Y 0).toInt Y n) Q nd))), (oc0 bo (iI (mnI (U2 0).toInt U2 (nN (mn g5)))) (iI (mnI (V2 0).toInt V2 (nN (mn g5)))) (iI (mxI (U2 0).toInt U2 (nN (mn g5)))) (iI (mxI (V2 0).toInt V2 (nN (mn g5))))), (oc7 sh (.ref fa) (nI ft)), (oq fa cF 200 FA), (oc1 fe rk9 wd9 tw9 pa9 pb9 (.ref lo) (.ref lk) fm9), (oc4 lk kd9 st9 (.ref r) gb9 jt9 we9), (oc6 r (.ref rx) (.ref ry) (nI n) rg), (oa rx cI cap X), (oa ry cI cap Y)]) (by rw [hT_1]; exact (show va_P (dC, dI) classes (([(oc3 lw (.ref dr) (.ref tg) (.ref wy) (.ref br) (.ref bo) (.ref aa)), (oc6 tg (.ref tx) (.ref ty) (nI q_13) q_16), (oa tx cI 3 q_14), (oa ty cI 3 q_15), (oc6 wy (.ref wx) (.ref wz) (nI q_17) q_20), (oa wx cI 2 q_18), (oa wz cI 2 q_19), (oc6 dr (.ref dx) (.ref dy) (nI nd) rd), (oa dx cI cd P), (oa dy cI cd Q), (oc0 br (iI (mnI (mnI (X 0).toInt X n) P nd)) (iI (mnI (mnI (Y 0).toInt Y n) Q nd)) (iI (mxI (mxI (X 0).toInt X n) P nd)) (iI (mxI (mxI (Y 0).toInt Y n) Q nd))), (oc0 bo (iI (mnI (U2 0).toInt U2 (nN (mn g5)))) (iI (mnI (V2 0).toInt V2 (nN (mn g5)))) (iI (mxI (U2 0).toInt U2 (nN (mn g5)))) (iI (mxI (V2 0).toInt V2 (nN (mn g5))))), (oc7 sh (.ref fa) (nI ft)), (oq fa cF 200 FA), (oc1 fe rk9 wd9 tw9 pa9 pb9 (.ref lo) (.ref lk) fm9), (oc4 lk kd9 st9 (.ref r) gb9 jt9 we9), (oc6 r (.ref rx) (.ref ry) (nI n) rg), (oa rx cI cap X), (oa ry cI cap Y)] ++ [(oc1 fe2 rk2 wd2 tw2 pa2 pb2 (.ref lo2) (.ref lk2) fm2), (oc4 lk2 (kd g5) (st g5) (.ref r2) gb2 jt2 we2), (oc6 r2 (.ref rx2) (.ref ry2) (nI (nN (mn g5))) rg2), (oa rx2 cI cap2 U2), (oa ry2 cI cap2 V2)]) ++ va_pl T_1 f) H from hP)) hc9_1
                          have hD : va_D A ([(oc3 lw (.ref dr) (.ref tg) (.ref wy) (.ref br) (.ref bo) (.ref aa)), (oc6 tg (.ref tx) (.ref ty) (nI q_13) q_16), (oa tx cI 3 q_14), (oa ty cI 3 q_15), (oc6 wy (.ref wx) (.ref wz) (nI q_17) q_20), (oa wx cI 2 q_18), (oa wz cI 2 q_19), (oc6 dr (.ref dx) (.ref dy) (nI nd) rd), (oa dx cI cd P), (oa dy cI cd Q), (oc0 br (iI (mnI (mnI (X 0).toInt X n) P nd)) (iI (mnI (mnI (Y 0).toInt Y n) Q nd)) (iI (mxI (mxI (X 0).toInt X n) P nd)) (iI (mxI (mxI (Y 0).toInt Y n) Q nd))), (oc0 bo (iI (mnI (U2 0).toInt U2 (nN (mn g5)))) (iI (mnI (V2 0).toInt V2 (nN (mn g5)))) (iI (mxI (U2 0).toInt U2 (nN (mn g5)))) (iI (mxI (V2 0).toInt V2 (nN (mn g5))))), (oc7 sh (.ref fa) (nI ft)), (oq fa cF 200 FA), (oc1 fe rk9 wd9 tw9 pa9 pb9 (.ref lo) (.ref lk) fm9), (oc4 lk kd9 st9 (.ref r) gb9 jt9 we9), (oc6 r (.ref rx) (.ref ry) (nI n) rg), (oa rx cI cap X), (oa ry cI cap Y)] ++ va_pl L f) := vaD_ae hD0_1 rfl
                          refine lv_iconst (v := 0) hx hb dX4_allows_185 rfl ?_
                          obtain ⟨hP9, hD9⟩ := zq_part (cx := [(oc3 lw (.ref dr) (.ref tg) (.ref wy) (.ref br) (.ref bo) (.ref aa)), (oc6 tg (.ref tx) (.ref ty) (nI q_13) q_16), (oa tx cI 3 q_14), (oa ty cI 3 q_15), (oc6 wy (.ref wx) (.ref wz) (nI q_17) q_20), (oa wx cI 2 q_18), (oa wz cI 2 q_19), (oc6 dr (.ref dx) (.ref dy) (nI nd) rd), (oa dx cI cd P), (oa dy cI cd Q), (oc0 br (iI (mnI (mnI (X 0).toInt X n) P nd)) (iI (mnI (mnI (Y 0).toInt Y n) Q nd)) (iI (mxI (mxI (X 0).toInt X n) P nd)) (iI (mxI (mxI (Y 0).toInt Y n) Q nd))), (oc0 bo (iI (mnI (U2 0).toInt U2 (nN (mn g5)))) (iI (mnI (V2 0).toInt V2 (nN (mn g5)))) (iI (mxI (U2 0).toInt U2 (nN (mn g5)))) (iI (mxI (V2 0).toInt V2 (nN (mn g5))))), (oc7 sh (.ref fa) (nI ft)), (oq fa cF 200 FA), (oc1 fe rk9 wd9 tw9 pa9 pb9 (.ref lo) (.ref lk) fm9), (oc4 lk kd9 st9 (.ref r) gb9 jt9 we9), (oc6 r (.ref rx) (.ref ry) (nI n) rg), (oa rx cI cap X), (oa ry cI cap Y)]) hP hD [0, 1, 2, 3, 4, 5, 6, 7, 8, 9, 10, 11, 12, 13, 14, 15, 16, 17, 18] rfl rfl
                          rw [hQ9]
                          exact W.zret (ty := .boolean) (v := 0) hx hb hr (rfl) (fun t ht hW => ⟨⟨congrArg (fun z => Outcome.returned (some (Value.int z))) (show (0 : Int32) = pI (pls nd P Q ∧ ((∀ i, i < edg nd rd → eFr nd P Q rd i (i + 1)) ∧ (¬ (6 : Int32).toInt = 6 ∨ ∀ k, k < nd → eRt nd P Q k)) ∧ ∀ q, q < ft → (q ≠ f0 → lvF ft st tn q → (apB (mnI (mnI (X 0).toInt X n) P nd) (mnI (mnI (Y 0).toInt Y n) Q nd) (mxI (mxI (X 0).toInt X n) P nd) (mxI (mxI (Y 0).toInt Y n) Q nd) (nN (mn q)) (cF40 cx q) (cF40 cy q) ∨ (asb n X Y rg nd P Q rd (nN (mn q)) (cF40 cx q) (cF40 cy q) (rgK (kd q).toInt))))) from (zp_f (fun h => by have h9 := h.2.2 g5 (by omega) hif hlv2; first | exact absurd h9 (fun h8 => h8.elim (fun h7 => absurd h7 (by first | with_reducible assumption | assumption)) (fun h7 => absurd h7 (by first | with_reducible assumption | assumption))))).symm), q_13, q_14, q_15, q_16, q_17, q_18, q_19, q_20, (iI (mnI (mnI (X 0).toInt X n) P nd)), (iI (mnI (mnI (Y 0).toInt Y n) Q nd)), (iI (mxI (mxI (X 0).toInt X n) P nd)), (iI (mxI (mxI (Y 0).toInt Y n) Q nd)), (iI (mnI (U2 0).toInt U2 (nN (mn g5)))), (iI (mnI (V2 0).toInt V2 (nN (mn g5)))), (iI (mxI (U2 0).toInt U2 (nN (mn g5)))), (iI (mxI (V2 0).toInt V2 (nN (mn g5)))), by rw [ht]; exact hP9, hD9⟩, hS.F ht⟩) hS.2.2 dX4_allows_186
                    · have c_11 : fe2 = fe := c_11
                      exfalso; exact absurd (by first | with_reducible assumption | assumption) (pl_sep (q := (oc1 fe rk9 wd9 tw9 pa9 pb9 (.ref lo) (.ref lk) fm9)) hD0_1 (by simp) hfe2.1)
            exact hl_115 _ 0 nt TX TY rt nw WX WY rw b5 b6 b7 b8 H locs ls (Nat.lt_succ_self _) (by first | with_reducible assumption | omega) (by intro q hq; omega) hP hD hS (lv_sub hl [0, 1, 2, 3, 4, 5, 6, 7] rfl)
          · have c_6 : ¬ ((∀ i, i < edg nd rd → eFr nd P Q rd i (i + 1)) ∧ (¬ (6 : Int32).toInt = 6 ∨ ∀ k, k < nd → eRt nd P Q k)) := zp_0 c_6
            refine lv_iconst (v := 0) hx hb dX4_allows_103 rfl ?_
            obtain ⟨hP9, hD9⟩ := zq_part (cx := [(oc3 lw (.ref dr) (.ref tg) (.ref wy) (.ref br) (.ref bo) (.ref aa)), (oc6 tg (.ref tx) (.ref ty) (nI nt) rt), (oa tx cI 3 TX), (oa ty cI 3 TY), (oc6 wy (.ref wx) (.ref wz) (nI nw) rw), (oa wx cI 2 WX), (oa wz cI 2 WY), (oc6 dr (.ref dx) (.ref dy) (nI nd) rd), (oa dx cI cd P), (oa dy cI cd Q), (oc0 br b1 b2 b3 b4), (oc0 bo b5 b6 b7 b8), (oc7 sh (.ref fa) (nI ft)), (oq fa cF 200 FA), (oc1 fe rk9 wd9 tw9 pa9 pb9 (.ref lo) (.ref lk) fm9), (oc4 lk kd9 st9 (.ref r) gb9 jt9 we9), (oc6 r (.ref rx) (.ref ry) (nI n) rg), (oa rx cI cap X), (oa ry cI cap Y)]) hP hD [0, 1, 2, 3, 4, 5, 6, 7, 8, 9, 10, 11, 12, 13, 14, 15, 16, 17, 18] rfl rfl
            rw [hQ9]
            exact W.zret (ty := .boolean) (v := 0) hx hb hr (rfl) (fun t ht hW => ⟨⟨congrArg (fun z => Outcome.returned (some (Value.int z))) (show (0 : Int32) = pI (pls nd P Q ∧ ((∀ i, i < edg nd rd → eFr nd P Q rd i (i + 1)) ∧ (¬ (6 : Int32).toInt = 6 ∨ ∀ k, k < nd → eRt nd P Q k)) ∧ ∀ q, q < ft → (q ≠ f0 → lvF ft st tn q → (apB (mnI (mnI (X 0).toInt X n) P nd) (mnI (mnI (Y 0).toInt Y n) Q nd) (mxI (mxI (X 0).toInt X n) P nd) (mxI (mxI (Y 0).toInt Y n) Q nd) (nN (mn q)) (cF40 cx q) (cF40 cy q) ∨ (asb n X Y rg nd P Q rd (nN (mn q)) (cF40 cx q) (cF40 cy q) (rgK (kd q).toInt))))) from (zp_f (fun h => absurd h.2.1 (by first | with_reducible assumption | assumption))).symm), nt, TX, TY, rt, nw, WX, WY, rw, b1, b2, b3, b4, b5, b6, b7, b8, by rw [ht]; exact hP9, hD9⟩, hS.F ht⟩) hS.2.2 dX4_allows_104
        · exact absurd (by decide) c_5
  · have c_1 : ¬ (pls nd P Q) := zp_0 c_1
    refine lv_iconst (v := 0) hx hb dX4_allows_24 rfl ?_
    obtain ⟨hP9, hD9⟩ := zq_part (cx := [(oc3 lw (.ref dr) (.ref tg) (.ref wy) (.ref br) (.ref bo) (.ref aa)), (oc6 tg (.ref tx) (.ref ty) (nI nt) rt), (oa tx cI 3 TX), (oa ty cI 3 TY), (oc6 wy (.ref wx) (.ref wz) (nI nw) rw), (oa wx cI 2 WX), (oa wz cI 2 WY), (oc6 dr (.ref dx) (.ref dy) (nI nd) rd), (oa dx cI cd P), (oa dy cI cd Q), (oc0 br b1 b2 b3 b4), (oc0 bo b5 b6 b7 b8), (oc7 sh (.ref fa) (nI ft)), (oq fa cF 200 FA), (oc1 fe rk9 wd9 tw9 pa9 pb9 (.ref lo) (.ref lk) fm9), (oc4 lk kd9 st9 (.ref r) gb9 jt9 we9), (oc6 r (.ref rx) (.ref ry) (nI n) rg), (oa rx cI cap X), (oa ry cI cap Y)]) hP hD [0, 1, 2, 3, 4, 5, 6, 7, 8, 9, 10, 11, 12, 13, 14, 15, 16, 17, 18] rfl rfl
    rw [hQ9]
    exact W.zret (ty := .boolean) (v := 0) hx hb hr (rfl) (fun t ht hW => ⟨⟨congrArg (fun z => Outcome.returned (some (Value.int z))) (show (0 : Int32) = pI (pls nd P Q ∧ ((∀ i, i < edg nd rd → eFr nd P Q rd i (i + 1)) ∧ (¬ (6 : Int32).toInt = 6 ∨ ∀ k, k < nd → eRt nd P Q k)) ∧ ∀ q, q < ft → (q ≠ f0 → lvF ft st tn q → (apB (mnI (mnI (X 0).toInt X n) P nd) (mnI (mnI (Y 0).toInt Y n) Q nd) (mxI (mxI (X 0).toInt X n) P nd) (mxI (mxI (Y 0).toInt Y n) Q nd) (nN (mn q)) (cF40 cx q) (cF40 cy q) ∨ (asb n X Y rg nd P Q rd (nN (mn q)) (cF40 cx q) (cF40 cy q) (rgK (kd q).toInt))))) from (zp_f (fun h => absurd h.1 (by first | with_reducible assumption | assumption))).symm), nt, TX, TY, rt, nw, WX, WY, rw, b1, b2, b3, b4, b5, b6, b7, b8, by rw [ht]; exact hP9, hD9⟩, hS.F ht⟩) hS.2.2 dX4_allows_25
end
section
/-! two features' cells out of the pool -/
theorem vw5 {cI : ClassId} {L : List Nat} {f : Nat → va_E} {FA : Nat → Option Nat} {kd st tn mn cx cy : Nat → Int32} {i f0 g0 ft : Nat} (h : i < ft → i ≠ f0 → i ≠ g0 → vwO cI L f FA kd st tn mn cx cy i) (hi : i < ft) :
    i = f0 ∨ (i ≠ f0 ∧ i = g0) ∨ ((i ≠ f0 ∧ i ≠ g0) ∧ ¬ (st i).toInt = 1 ∧ vwS L f FA kd st i) ∨ ((i ≠ f0 ∧ i ≠ g0) ∧ ¬ (tn i).toInt = 0 ∧ vwT L f FA kd st i) ∨ ((i ≠ f0 ∧ i ≠ g0) ∧ lvF ft st tn i ∧ vwL cI L f FA kd st mn cx cy i) := by
  by_cases e : i = f0
  · exact Or.inl e
  · by_cases e2 : i = g0
    · exact Or.inr (Or.inl ⟨e, e2⟩)
    · have v := h hi e e2
      by_cases s1 : (st i).toInt = 1
      · by_cases t0 : (tn i).toInt = 0
        · exact Or.inr (Or.inr (Or.inr (Or.inr ⟨⟨e, e2⟩, ⟨hi, s1, t0⟩, v.2.2 t0⟩)))
        · exact Or.inr (Or.inr (Or.inr (Or.inl ⟨⟨e, e2⟩, t0, v.2.1 t0⟩)))
      · exact Or.inr (Or.inr (Or.inl ⟨⟨e, e2⟩, s1, v.1⟩))
end
section
set_option maxHeartbeats 4000000 in
set_option maxRecDepth 100000 in
theorem k_Law_isFreeFor_1 (l : Launch) (dC : Nat → ClassId) (dI : Nat → Nat → Nat) (cI cZ cF : ClassId) (sz : Nat) (lw : Nat) (dr : Nat) (tg : Nat) (wy : Nat) (br : Nat) (bo : Nat) (aa : Nat) (dx : Nat) (dy : Nat) (nd : Nat) (cd : Nat) (P : Nat → Int32) (Q : Nat → Int32) (rd : Int32) (sh : Nat) (fa : Nat) (ft : Nat) (FA : Nat → Option Nat) (fe : Nat) (lo : Nat) (rk9 : Int32) (wd9 : Int32) (tw9 : Int32) (pa9 : Int32) (pb9 : Int32) (lk : Nat) (kd9 : Int32) (st9 : Int32) (gb9 : Int32) (jt9 : Int32) (we9 : Int32) (r : Nat) (f0 : Nat) (fm9 : Value) (L : List Nat) (f : Nat → va_E) (kd : Nat → Int32) (st : Nat → Int32) (tn : Nat → Int32) (mn : Nat → Int32) (cx : Nat → Int32) (cy : Nat → Int32) (h200 : ft ≤ 200) (hf0 : f0 < ft) (hFA : FA f0 = some fe) (hs1 : st9.toInt = 1) (hvw : ∀ q, q < ft → q ≠ f0 → vwO cI L f FA kd st tn mn cx cy q) (hwf : ∀ q, lvF ft st tn q → wfM mn cx cy q) (hkn : okN ft st tn kd mn) (hnd : nd ≤ cd) (hcd : cd ≤ 1000) (hpd : pls nd P Q) : Met l yX4_isFreeFor (.code yX4_isFreeFor cX4_isFreeFor 6 (some .boolean) :: ws0) ({ frames := 3, cells := 0, slots := 0, locals := 65 } : Room) (va_Pc [.ref lw, .ref sh, .ref fe, .ref fe] (zPre (dC, dI) classes (zTy cI cZ cF) ([(oc3 lw (.ref dr) (.ref tg) (.ref wy) (.ref br) (.ref bo) (.ref aa)), (oc6 dr (.ref dx) (.ref dy) (nI nd) rd), (oa dx cI cd P), (oa dy cI cd Q), (oc7 sh (.ref fa) (nI ft)), (oq fa cF 200 FA), (oc1 fe rk9 wd9 tw9 pa9 pb9 (.ref lo) (.ref lk) fm9), (oc4 lk kd9 st9 (.ref r) gb9 jt9 we9)] ++ va_pl L f) sz zXN)) (zQ (some (.int (pI (∀ q, q < ft → (q ≠ f0 → lvF ft st tn q → ¬ tch nd P Q rd (nN (mn q)) (cF40 cx q) (cF40 cy q) (rgK (kd q).toInt) ∧ ¬ inF 5 nd P Q (cF40 cx q 0).toInt (cF40 cy q 0).toInt))))) (fun t => va_P (dC, dI) classes ([(oc3 lw (.ref dr) (.ref tg) (.ref wy) (.ref br) (.ref bo) (.ref aa)), (oc6 dr (.ref dx) (.ref dy) (nI nd) rd), (oa dx cI cd P), (oa dy cI cd Q), (oc7 sh (.ref fa) (nI ft)), (oq fa cF 200 FA), (oc1 fe rk9 wd9 tw9 pa9 pb9 (.ref lo) (.ref lk) fm9), (oc4 lk kd9 st9 (.ref r) gb9 jt9 we9)] ++ va_pl L f) t.heap ∧ va_D (va_A ([(oc3 lw (.ref dr) (.ref tg) (.ref wy) (.ref br) (.ref bo) (.ref aa)), (oc6 dr (.ref dx) (.ref dy) (nI nd) rd), (oa dx cI cd P), (oa dy cI cd Q), (oc7 sh (.ref fa) (nI ft)), (oq fa cF 200 FA), (oc1 fe rk9 wd9 tw9 pa9 pb9 (.ref lo) (.ref lk) fm9), (oc4 lk kd9 st9 (.ref r) gb9 jt9 we9)] ++ va_pl L f) sz) ([(oc3 lw (.ref dr) (.ref tg) (.ref wy) (.ref br) (.ref bo) (.ref aa)), (oc6 dr (.ref dx) (.ref dy) (nI nd) rd), (oa dx cI cd P), (oa dy cI cd Q), (oc7 sh (.ref fa) (nI ft)), (oq fa cF 200 FA), (oc1 fe rk9 wd9 tw9 pa9 pb9 (.ref lo) (.ref lk) fm9), (oc4 lk kd9 st9 (.ref r) gb9 jt9 we9)] ++ va_pl L f)) (va_A ([(oc3 lw (.ref dr) (.ref tg) (.ref wy) (.ref br) (.ref bo) (.ref aa)), (oc6 dr (.ref dx) (.ref dy) (nI nd) rd), (oa dx cI cd P), (oa dy cI cd Q), (oc7 sh (.ref fa) (nI ft)), (oq fa cF 200 FA), (oc1 fe rk9 wd9 tw9 pa9 pb9 (.ref lo) (.ref lk) fm9), (oc4 lk kd9 st9 (.ref r) gb9 jt9 we9)] ++ va_pl L f) sz)) 0 0 (va_A ([(oc3 lw (.ref dr) (.ref tg) (.ref wy) (.ref br) (.ref bo) (.ref aa)), (oc6 dr (.ref dx) (.ref dy) (nI nd) rd), (oa dx cI cd P), (oa dy cI cd Q), (oc7 sh (.ref fa) (nI ft)), (oq fa cF 200 FA), (oc1 fe rk9 wd9 tw9 pa9 pb9 (.ref lo) (.ref lk) fm9), (oc4 lk kd9 st9 (.ref r) gb9 jt9 we9)] ++ va_pl L f) sz) := by
  refine Met.ofW (cc := cX4_isFreeFor) (maxL := 6) (ret := (some .boolean)) rfl rfl ?_
  intro p e s m args below meth c s₁ B hml hv
  obtain ⟨rfl, hsz, hP, hK, hD0, hXN⟩ := hv
  have hx := B.exec
  have hb := B.bytes
  have hr := B.returns
  have hts0 := atoms_spec (ws := .code yX4_isFreeFor cX4_isFreeFor 6 (some .boolean) :: ws0) B.pre
  have hts : ∀ w9 ∈ ws0, w9.before ([.ref lw, .ref sh, .ref fe, .ref fe] : List Value).toArray s = true := fun w9 h => hts0 w9 (List.mem_cons_of_mem _ h)
  have hown : s.vm.findClass "ScaleShop$Law" = some m.cls := findClass_of_methodNamed B.named
  have hlocks := B.notSynchronized
  subst hsz
  have hD := hD0.self (sz := s.heap.size)
  clear hD0
  generalize hAe : va_A ([(oc3 lw (.ref dr) (.ref tg) (.ref wy) (.ref br) (.ref bo) (.ref aa)), (oc6 dr (.ref dx) (.ref dy) (nI nd) rd), (oa dx cI cd P), (oa dy cI cd Q), (oc7 sh (.ref fa) (nI ft)), (oq fa cF 200 FA), (oc1 fe rk9 wd9 tw9 pa9 pb9 (.ref lo) (.ref lk) fm9), (oc4 lk kd9 st9 (.ref r) gb9 jt9 we9)] ++ va_pl L f) s.heap.size = A at hD ⊢
  have hA : ∀ q : Nat, s.heap.size ≤ q → A q := fun q h => by rw [← hAe]; exact Or.inr h
  clear hAe
  have hS : va_S A s.heap s.heap [] := va_S.rf
  have hP : va_P (dC, dI) classes ([(oc3 lw (.ref dr) (.ref tg) (.ref wy) (.ref br) (.ref bo) (.ref aa)), (oc6 dr (.ref dx) (.ref dy) (nI nd) rd), (oa dx cI cd P), (oa dy cI cd Q), (oc7 sh (.ref fa) (nI ft)), (oq fa cF 200 FA), (oc1 fe rk9 wd9 tw9 pa9 pb9 (.ref lo) (.ref lk) fm9), (oc4 lk kd9 st9 (.ref r) gb9 jt9 we9)] ++ va_pl L f) s.heap := hP
  obtain ⟨Q9, hQ9⟩ : ∃ Q9 : State → Prop, Q9 = MQ below (zQ (some (.int (pI (∀ q, q < ft → (q ≠ f0 → lvF ft st tn q → ¬ tch nd P Q rd (nN (mn q)) (cF40 cx q) (cF40 cy q) (rgK (kd q).toInt) ∧ ¬ inF 5 nd P Q (cF40 cx q 0).toInt (cF40 cy q 0).toInt))))) (fun t => va_P (dC, dI) classes ([(oc3 lw (.ref dr) (.ref tg) (.ref wy) (.ref br) (.ref bo) (.ref aa)), (oc6 dr (.ref dx) (.ref dy) (nI nd) rd), (oa dx cI cd P), (oa dy cI cd Q), (oc7 sh (.ref fa) (nI ft)), (oq fa cF 200 FA), (oc1 fe rk9 wd9 tw9 pa9 pb9 (.ref lo) (.ref lk) fm9), (oc4 lk kd9 st9 (.ref r) gb9 jt9 we9)] ++ va_pl L f) t.heap ∧ va_D A ([(oc3 lw (.ref dr) (.ref tg) (.ref wy) (.ref br) (.ref bo) (.ref aa)), (oc6 dr (.ref dx) (.ref dy) (nI nd) rd), (oa dx cI cd P), (oa dy cI cd Q), (oc7 sh (.ref fa) (nI ft)), (oq fa cF 200 FA), (oc1 fe rk9 wd9 tw9 pa9 pb9 (.ref lo) (.ref lk) fm9), (oc4 lk kd9 st9 (.ref r) gb9 jt9 we9)] ++ va_pl L f)) A) ([.ref lw, .ref sh, .ref fe, .ref fe] : List Value).toArray s 0 0 A := ⟨_, rfl⟩
  rw [← hQ9]
  have hl := lv_entry ([.ref lw, .ref sh, .ref fe, .ref fe]) (n := 6) (Nat.le_of_ble_eq_true rfl)
  rw [lg_entry_eq]
  generalize (lg_sl ([.ref lw, .ref sh, .ref fe, .ref fe]) ++ List.replicate (6 - (lg_sl ([.ref lw, .ref sh, .ref fe, .ref fe])).length) Slot.unset).toArray = ls at hl ⊢
  have hl : lv_has ls 6 [(0, .ref lw), (1, .ref sh), (2, .ref fe), (3, .ref fe)] := hl
  refine lv_iconst (v := 0) hx hb dX4_isFreeFor_0 rfl ?_
  refine lv_istore (lv' := [(4, .int 0), (0, .ref lw), (1, .ref sh), (2, .ref fe), (3, .ref fe)]) hx hb dX4_isFreeFor_1 hl (Nat.le_of_ble_eq_true rfl) rfl (fun ls hl => ?_)
  have hl_3 : ∀ (n9 : Nat) (g5 : Nat) (H : Heap) (locs : List Loc) (ls : Array Slot), ft - g5 < n9 → (g5 ≤ ft) → (∀ q, q < g5 → (q ≠ f0 → lvF ft st tn q → ¬ tch nd P Q rd (nN (mn q)) (cF40 cx q) (cF40 cy q) (rgK (kd q).toInt) ∧ ¬ inF 5 nd P Q (cF40 cx q 0).toInt (cF40 cy q 0).toInt)) → va_P (dC, dI) classes ([(oc3 lw (.ref dr) (.ref tg) (.ref wy) (.ref br) (.ref bo) (.ref aa)), (oc6 dr (.ref dx) (.ref dy) (nI nd) rd), (oa dx cI cd P), (oa dy cI cd Q), (oc7 sh (.ref fa) (nI ft)), (oq fa cF 200 FA), (oc1 fe rk9 wd9 tw9 pa9 pb9 (.ref lo) (.ref lk) fm9), (oc4 lk kd9 st9 (.ref r) gb9 jt9 we9)] ++ va_pl L f) H → va_D A ([(oc3 lw (.ref dr) (.ref tg) (.ref wy) (.ref br) (.ref bo) (.ref aa)), (oc6 dr (.ref dx) (.ref dy) (nI nd) rd), (oa dx cI cd P), (oa dy cI cd Q), (oc7 sh (.ref fa) (nI ft)), (oq fa cF 200 FA), (oc1 fe rk9 wd9 tw9 pa9 pb9 (.ref lo) (.ref lk) fm9), (oc4 lk kd9 st9 (.ref r) gb9 jt9 we9)] ++ va_pl L f) → va_S A s.heap H locs → lv_has ls 6 [(4, .int (nI g5)), (0, .ref lw), (1, .ref sh), (2, .ref fe), (3, .ref fe)] → W p l e ((headSpec (.code yX4_isFreeFor cX4_isFreeFor 6 (some .boolean) :: ws0) ({ frames := 3, cells := 0, slots := 0, locals := 65 } : Room)).room) s m ([.ref lw, .ref sh, .ref fe, .ref fe] : List Value).toArray below meth c H locs 0 0 Q9 (F0 m 3 ls []) := by
    intro n9
    induction n9 with
    | zero => intro g5 H locs ls hm; exact absurd hm (Nat.not_lt_zero _)
    | succ n9 ih_3 =>
      intro g5 H locs ls hm hi5 hall hP hD hS hl
      refine lv_iload hx hb dX4_isFreeFor_3 (lv_at hl 0 rfl) ?_
      refine lv_aload_n hx hb dX4_isFreeFor_5 rfl (lv_at hl 2 rfl) ?_
      refine va_get (D := (dC, dI)) (ci := 7) (v := .int (nI ft)) (C := RX8) (T := TX8) (N := 2) hx hb hts inX8 hown hK hP 4 rfl rfl 1 (Nat.le_of_ble_eq_true rfl) (hts _ mw_139) (fun _ h9 => h9) rfl dX4_isFreeFor_6 ?_
      have b9_2 : g5 < 2147483648 := by omega
      have b9_3 : ft < 2147483648 := by omega
      refine lv_icmp_ge (tgt := 80) hx hb dX4_isFreeFor_9 rfl (fun c_1 => ?_) (fun c_1 => ?_)
      · have c_1 : ((ft : Nat) : Int) ≤ ((g5 : Nat) : Int) := zc_le (nI_toInt b9_3) (nI_toInt b9_2) c_1
        refine lv_iconst (v := 1) hx hb dX4_isFreeFor_80 rfl ?_
        obtain ⟨hP9, hD9⟩ := zq_part (cx := [(oc3 lw (.ref dr) (.ref tg) (.ref wy) (.ref br) (.ref bo) (.ref aa)), (oc6 dr (.ref dx) (.ref dy) (nI nd) rd), (oa dx cI cd P), (oa dy cI cd Q), (oc7 sh (.ref fa) (nI ft)), (oq fa cF 200 FA), (oc1 fe rk9 wd9 tw9 pa9 pb9 (.ref lo) (.ref lk) fm9), (oc4 lk kd9 st9 (.ref r) gb9 jt9 we9)]) hP hD [0, 1, 2, 3, 4, 5, 6, 7] rfl rfl
        rw [hQ9]
        exact W.zret (ty := .boolean) (v := 1) hx hb hr (rfl) (fun t ht hW => ⟨⟨congrArg (fun z => Outcome.returned (some (Value.int z))) (show (1 : Int32) = pI (∀ q, q < ft → (q ≠ f0 → lvF ft st tn q → ¬ tch nd P Q rd (nN (mn q)) (cF40 cx q) (cF40 cy q) (rgK (kd q).toInt) ∧ ¬ inF 5 nd P Q (cF40 cx q 0).toInt (cF40 cy q 0).toInt)) from (zp_t (fun q hq => hall q (by omega))).symm), by rw [ht]; exact hP9, hD9⟩, hS.F ht⟩) hS.2.2 dX4_isFreeFor_81
      · have c_1 : ((g5 : Nat) : Int) < ((ft : Nat) : Int) := zc_nle (nI_toInt b9_3) (nI_toInt b9_2) c_1
        rcases vw4 (hvw g5) (show g5 < ft by omega) with hif | ⟨hif, hs2, fe2, lk2, lo2, rk2, wd2, tw2, pa2, pb2, gb2, jt2, we2, fm2, rw2, hFA2, hfe2, hlk2⟩ | ⟨hif, ht2, fe2, lk2, lo2, rk2, wd2, tw2, pa2, pb2, gb2, jt2, we2, fm2, hFA2, hfe2, hlk2⟩ | ⟨hif, hlv2, fe2, lk2, lo2, rk2, wd2, tw2, pa2, pb2, gb2, jt2, we2, fm2, r2, rx2, ry2, cap2, U2, V2, rg2, hFA2, hfe2, hlk2, ⟨hr2, hrx2, hry2, hne2⟩, hrr2⟩
        · skip
          have hFi : FA g5 = some fe := (by rw [hif]; exact hFA)
          refine lv_aload_n hx hb dX4_isFreeFor_12 rfl (lv_at hl 2 rfl) ?_
          refine lv_iload hx hb dX4_isFreeFor_13 (lv_at hl 0 rfl) ?_
          obtain ⟨hPc, hDc, hFc⟩ := zc_sub (wc := [(oc7 sh (.ref fa) (nI ft)), (oq fa cF 200 FA), (oc1 fe rk9 wd9 tw9 pa9 pb9 (.ref lo) (.ref lk) fm9), (oc4 lk kd9 st9 (.ref r) gb9 jt9 we9)]) hP hD hS hA [4, 5, 6, 7] rfl rfl
          refine zcall (st1 := [.ref r]) (va_runV (As := [.int (nI g5)]) (rest := []) ⟨hx, hb, hml, hown, hts⟩ (k_Sheet_rowThere_yv l dC dI cI cZ cF H.size sh fa ft FA g5 fe lo rk9 wd9 tw9 pa9 pb9 lk kd9 st9 gb9 jt9 we9 r fm9 (by first | with_reducible assumption | omega) (by first | with_reducible assumption | omega) (by first | exact hFi | exact hFA2) (by first | exact hs1 | exact hs2 | exact hlv2.2.1)) (csV_62 hts rfl rfl ⟨Nat.le_of_ble_eq_true rfl, Nat.le_of_ble_eq_true rfl⟩) (zPV2 (q0 := 0) (ci := 7) hPc hDc hK hXN rfl rfl) rfl rfl hl.1 rfl (lv_room (Nat.le_of_ble_eq_true rfl)) dX4_isFreeFor_15 ⟨Nat.le_of_ble_eq_true rfl, Nat.le_of_ble_eq_true rfl⟩) hS hFc hFc rfl (fun t H locs ht hB hk1 hS => ?_)
          obtain ⟨hP1, hD1⟩ := hB
          rw [ht] at hP1
          obtain ⟨hP, hD⟩ := zkQ (W2 := [(oc3 lw (.ref dr) (.ref tg) (.ref wy) (.ref br) (.ref bo) (.ref aa)), (oc6 dr (.ref dx) (.ref dy) (nI nd) rd), (oa dx cI cd P), (oa dy cI cd Q), (oc7 sh (.ref fa) (nI ft)), (oq fa cF 200 FA), (oc1 fe rk9 wd9 tw9 pa9 pb9 (.ref lo) (.ref lk) fm9), (oc4 lk kd9 st9 (.ref r) gb9 jt9 we9)]) hP hD [4, 5, 6, 7] [0, 1, 2, 3] [0, 1, 2, 3] [4, 5, 6, 7] [0, 1, 2, 3, 4, 5, 6, 7] 8 rfl rfl rfl rfl rfl rfl rfl rfl rfl hk1 hFc hP1 hD1
          clear hk1 hPc hDc hFc hP1 hD1 ht
          refine lv_astore (lv' := [(5, .ref r), (4, .int (nI g5)), (0, .ref lw), (1, .ref sh), (2, .ref fe), (3, .ref fe)]) hx hb dX4_isFreeFor_18 hl (Nat.le_of_ble_eq_true rfl) rfl (fun ls hl => ?_)
          refine lv_aload hx hb dX4_isFreeFor_20 (lv_at hl 0 rfl) ?_
          refine lv_ifnull hx hb dX4_isFreeFor_22 ?_
          refine lv_aload_n hx hb dX4_isFreeFor_25 rfl (lv_at hl 3 rfl) ?_
          refine lv_iload hx hb dX4_isFreeFor_26 (lv_at hl 1 rfl) ?_
          obtain ⟨hPc, hDc, hFc⟩ := zc_sub (wc := [(oc7 sh (.ref fa) (nI ft)), (oq fa cF 200 FA)]) hP hD hS hA [4, 5] rfl rfl
          refine zcall (st1 := [.ref fe]) (va_runV (As := [.int (nI g5)]) (rest := []) ⟨hx, hb, hml, hown, hts⟩ (k_Sheet_find l dC dI cI cZ cF H.size sh fa ft FA g5 fe (by first | with_reducible assumption | omega) (by first | with_reducible assumption | omega) (by first | exact hFi | exact hFA2)) (csV_63 hts rfl rfl ⟨Nat.le_of_ble_eq_true rfl, Nat.le_of_ble_eq_true rfl⟩) (zPV2 (q0 := 0) (ci := 7) hPc hDc hK hXN rfl rfl) rfl rfl hl.1 rfl (lv_room (Nat.le_of_ble_eq_true rfl)) dX4_isFreeFor_28 ⟨Nat.le_of_ble_eq_true rfl, Nat.le_of_ble_eq_true rfl⟩) hS hFc hFc rfl (fun t H locs ht hB hk1 hS => ?_)
          obtain ⟨hP1, hD1⟩ := hB
          rw [ht] at hP1
          obtain ⟨hP, hD⟩ := zkQ (W2 := [(oc3 lw (.ref dr) (.ref tg) (.ref wy) (.ref br) (.ref bo) (.ref aa)), (oc6 dr (.ref dx) (.ref dy) (nI nd) rd), (oa dx cI cd P), (oa dy cI cd Q), (oc7 sh (.ref fa) (nI ft)), (oq fa cF 200 FA), (oc1 fe rk9 wd9 tw9 pa9 pb9 (.ref lo) (.ref lk) fm9), (oc4 lk kd9 st9 (.ref r) gb9 jt9 we9)]) hP hD [4, 5] [0, 1, 2, 3, 6, 7] [0, 1, 2, 3, 6, 7] [4, 5] [0, 1, 2, 3, 6, 7, 4, 5] 8 rfl rfl rfl rfl rfl rfl rfl rfl rfl hk1 hFc hP1 hD1
          clear hk1 hPc hDc hFc hP1 hD1 ht
          refine lv_aload_n hx hb dX4_isFreeFor_31 rfl (lv_at hl 4 rfl) ?_
          refine z_acmpeq (rx := fe) (ry := fe) (tgt := 74) hx hb dX4_isFreeFor_32 (by decide) (fun c_4 => ?_) (fun c_4 => ?_)
          · have c_4 : fe = fe := c_4
            refine lv_iinc (v := nI (g5 + 1)) (lv' := [(4, .int (nI (g5 + 1))), (5, .ref r), (0, .ref lw), (1, .ref sh), (2, .ref fe), (3, .ref fe)]) hx hb dX4_isFreeFor_74 hl (k := 1) rfl (nI_add g5 1) (Nat.le_of_ble_eq_true rfl) rfl (fun ls hl => ?_)
            refine lv_goto (tgt := 3) hx hb dX4_isFreeFor_77 rfl ?_
            exact ih_3 (g5 + 1) H locs ls (by first | with_reducible assumption | omega) (by first | with_reducible assumption | omega) (by intro q hq; rcases Nat.lt_or_ge q g5 with h | h; exact hall q h; rw [show q = g5 by omega]; intro h1 h2; first | exact absurd hif h1 | exact absurd h2.2.1 hs2 | exact absurd h2.2.2 ht2 | exact ⟨by assumption, by assumption⟩) hP hD hS (lv_sub hl [0, 2, 3, 4, 5] rfl)
          · have c_4 : ¬ fe = fe := c_4
            exact absurd rfl c_4
        · skip
          have hc9_1 : inPl L f [(oc1 fe2 rk2 wd2 tw2 pa2 pb2 (.ref lo2) (.ref lk2) fm2), (oc4 lk2 (kd g5) (st g5) rw2 gb2 jt2 we2)] := ⟨hfe2, hlk2, trivial⟩
          have hD0_1 := hD
          obtain ⟨hP, hD⟩ := pl_out hP hD [(oc1 fe2 rk2 wd2 tw2 pa2 pb2 (.ref lo2) (.ref lk2) fm2), (oc4 lk2 (kd g5) (st g5) rw2 gb2 jt2 we2)] hc9_1 (pwF hfe2.2 hlk2.2)
          generalize hT_1 : outPl L [(oc1 fe2 rk2 wd2 tw2 pa2 pb2 (.ref lo2) (.ref lk2) fm2), (oc4 lk2 (kd g5) (st g5) rw2 gb2 jt2 we2)] = T_1 at hP hD
          obtain ⟨hP, hD⟩ : zPD (dC, dI) classes A ([(oc3 lw (.ref dr) (.ref tg) (.ref wy) (.ref br) (.ref bo) (.ref aa)), (oc6 dr (.ref dx) (.ref dy) (nI nd) rd), (oa dx cI cd P), (oa dy cI cd Q), (oc7 sh (.ref fa) (nI ft)), (oq fa cF 200 FA), (oc1 fe rk9 wd9 tw9 pa9 pb9 (.ref lo) (.ref lk) fm9), (oc4 lk kd9 st9 (.ref r) gb9 jt9 we9), (oc1 fe2 rk2 wd2 tw2 pa2 pb2 (.ref lo2) (.ref lk2) fm2), (oc4 lk2 (kd g5) (st g5) rw2 gb2 jt2 we2)] ++ va_pl T_1 f) H := ⟨hP, hD⟩
          refine lv_aload_n hx hb dX4_isFreeFor_12 rfl (lv_at hl 2 rfl) ?_
          refine lv_iload hx hb dX4_isFreeFor_13 (lv_at hl 0 rfl) ?_
          obtain ⟨hPc, hDc, hFc⟩ := zc_sub (wc := [(oc7 sh (.ref fa) (nI ft)), (oq fa cF 200 FA), (oc1 fe2 rk2 wd2 tw2 pa2 pb2 (.ref lo2) (.ref lk2) fm2), (oc4 lk2 (kd g5) (st g5) rw2 gb2 jt2 we2)]) hP hD hS hA [4, 5, 8, 9] rfl rfl
          refine zcall (st1 := [.null]) (va_runV (As := [.int (nI g5)]) (rest := []) ⟨hx, hb, hml, hown, hts⟩ (k_Sheet_rowThere_sv l dC dI cI cZ cF H.size sh fa ft FA g5 fe2 lo2 rk2 wd2 tw2 pa2 pb2 lk2 (kd g5) (st g5) gb2 jt2 we2 fm2 rw2 (by first | with_reducible assumption | omega) (by first | with_reducible assumption | omega) (by first | exact hFi | exact hFA2) (by first | exact hs1 | exact hs2 | exact hlv2.2.1)) (csV_62 hts rfl rfl ⟨Nat.le_of_ble_eq_true rfl, Nat.le_of_ble_eq_true rfl⟩) (zPV2 (q0 := 0) (ci := 7) hPc hDc hK hXN rfl rfl) rfl rfl hl.1 rfl (lv_room (Nat.le_of_ble_eq_true rfl)) dX4_isFreeFor_15 ⟨Nat.le_of_ble_eq_true rfl, Nat.le_of_ble_eq_true rfl⟩) hS hFc hFc rfl (fun t H locs ht hB hk1 hS => ?_)
          obtain ⟨hP1, hD1⟩ := hB
          rw [ht] at hP1
          obtain ⟨hP, hD⟩ := zkQ (W2 := [(oc3 lw (.ref dr) (.ref tg) (.ref wy) (.ref br) (.ref bo) (.ref aa)), (oc6 dr (.ref dx) (.ref dy) (nI nd) rd), (oa dx cI cd P), (oa dy cI cd Q), (oc7 sh (.ref fa) (nI ft)), (oq fa cF 200 FA), (oc1 fe rk9 wd9 tw9 pa9 pb9 (.ref lo) (.ref lk) fm9), (oc4 lk kd9 st9 (.ref r) gb9 jt9 we9), (oc1 fe2 rk2 wd2 tw2 pa2 pb2 (.ref lo2) (.ref lk2) fm2), (oc4 lk2 (kd g5) (st g5) rw2 gb2 jt2 we2)]) hP hD [4, 5, 8, 9] [0, 1, 2, 3, 6, 7] [0, 1, 2, 3, 6, 7] [4, 5, 8, 9] [0, 1, 2, 3, 6, 7, 4, 5, 8, 9] 10 rfl rfl rfl rfl rfl rfl rfl rfl rfl hk1 hFc hP1 hD1
          clear hk1 hPc hDc hFc hP1 hD1 ht
          refine lv_astoreN (lv' := [(5, .null), (4, .int (nI g5)), (0, .ref lw), (1, .ref sh), (2, .ref fe), (3, .ref fe)]) hx hb dX4_isFreeFor_18 hl (Nat.le_of_ble_eq_true rfl) rfl (fun ls hl => ?_)
          refine lv_aloadN hx hb dX4_isFreeFor_20 (lv_at hl 0 rfl) ?_
          refine lv_ifnullN (tgt := 74) hx hb dX4_isFreeFor_22 rfl ?_
          have hP := pl_back (cs := [(oc1 fe2 rk2 wd2 tw2 pa2 pb2 (.ref lo2) (.ref lk2) fm2), (oc4 lk2 (kd g5) (st g5) rw2 gb2 jt2 we2)]) (L := L) (f := f) (X := [(oc3 lw (.ref dr) (.ref tg) (.ref wy) (.ref br) (.ref bo) (.ref aa)), (oc6 dr (.ref dx) (.ref dy) (nI nd) rd), (oa dx cI cd P), (oa dy cI cd Q), (oc7 sh (.ref fa) (nI ft)), (oq fa cF 200 FA), (oc1 fe rk9 wd9 tw9 pa9 pb9 (.ref lo) (.ref lk) fm9), (oc4 lk kd9 st9 (.ref r) gb9 jt9 we9)]) (by rw [hT_1]; exact (show va_P (dC, dI) classes (([(oc3 lw (.ref dr) (.ref tg) (.ref wy) (.ref br) (.ref bo) (.ref aa)), (oc6 dr (.ref dx) (.ref dy) (nI nd) rd), (oa dx cI cd P), (oa dy cI cd Q), (oc7 sh (.ref fa) (nI ft)), (oq fa cF 200 FA), (oc1 fe rk9 wd9 tw9 pa9 pb9 (.ref lo) (.ref lk) fm9), (oc4 lk kd9 st9 (.ref r) gb9 jt9 we9)] ++ [(oc1 fe2 rk2 wd2 tw2 pa2 pb2 (.ref lo2) (.ref lk2) fm2), (oc4 lk2 (kd g5) (st g5) rw2 gb2 jt2 we2)]) ++ va_pl T_1 f) H from hP)) hc9_1
          have hD : va_D A ([(oc3 lw (.ref dr) (.ref tg) (.ref wy) (.ref br) (.ref bo) (.ref aa)), (oc6 dr (.ref dx) (.ref dy) (nI nd) rd), (oa dx cI cd P), (oa dy cI cd Q), (oc7 sh (.ref fa) (nI ft)), (oq fa cF 200 FA), (oc1 fe rk9 wd9 tw9 pa9 pb9 (.ref lo) (.ref lk) fm9), (oc4 lk kd9 st9 (.ref r) gb9 jt9 we9)] ++ va_pl L f) := vaD_ae hD0_1 rfl
          refine lv_iinc (v := nI (g5 + 1)) (lv' := [(4, .int (nI (g5 + 1))), (5, .null), (0, .ref lw), (1, .ref sh), (2, .ref fe), (3, .ref fe)]) hx hb dX4_isFreeFor_74 hl (k := 1) rfl (nI_add g5 1) (Nat.le_of_ble_eq_true rfl) rfl (fun ls hl => ?_)
          refine lv_goto (tgt := 3) hx hb dX4_isFreeFor_77 rfl ?_
          exact ih_3 (g5 + 1) H locs ls (by first | with_reducible assumption | omega) (by first | with_reducible assumption | omega) (by intro q hq; rcases Nat.lt_or_ge q g5 with h | h; exact hall q h; rw [show q = g5 by omega]; intro h1 h2; first | exact absurd hif h1 | exact absurd h2.2.1 hs2 | exact absurd h2.2.2 ht2 | exact ⟨by assumption, by assumption⟩) hP hD hS (lv_sub hl [0, 2, 3, 4, 5] rfl)
        · skip
          have hc9_1 : inPl L f [(oc1 fe2 rk2 wd2 tw2 pa2 pb2 (.ref lo2) (.ref lk2) fm2), (oc4 lk2 (kd g5) (st g5) .null gb2 jt2 we2)] := ⟨hfe2, hlk2, trivial⟩
          have hD0_1 := hD
          obtain ⟨hP, hD⟩ := pl_out hP hD [(oc1 fe2 rk2 wd2 tw2 pa2 pb2 (.ref lo2) (.ref lk2) fm2), (oc4 lk2 (kd g5) (st g5) .null gb2 jt2 we2)] hc9_1 (pwF hfe2.2 hlk2.2)
          generalize hT_1 : outPl L [(oc1 fe2 rk2 wd2 tw2 pa2 pb2 (.ref lo2) (.ref lk2) fm2), (oc4 lk2 (kd g5) (st g5) .null gb2 jt2 we2)] = T_1 at hP hD
          obtain ⟨hP, hD⟩ : zPD (dC, dI) classes A ([(oc3 lw (.ref dr) (.ref tg) (.ref wy) (.ref br) (.ref bo) (.ref aa)), (oc6 dr (.ref dx) (.ref dy) (nI nd) rd), (oa dx cI cd P), (oa dy cI cd Q), (oc7 sh (.ref fa) (nI ft)), (oq fa cF 200 FA), (oc1 fe rk9 wd9 tw9 pa9 pb9 (.ref lo) (.ref lk) fm9), (oc4 lk kd9 st9 (.ref r) gb9 jt9 we9), (oc1 fe2 rk2 wd2 tw2 pa2 pb2 (.ref lo2) (.ref lk2) fm2), (oc4 lk2 (kd g5) (st g5) .null gb2 jt2 we2)] ++ va_pl T_1 f) H := ⟨hP, hD⟩
          refine lv_aload_n hx hb dX4_isFreeFor_12 rfl (lv_at hl 2 rfl) ?_
          refine lv_iload hx hb dX4_isFreeFor_13 (lv_at hl 0 rfl) ?_
          obtain ⟨hPc, hDc, hFc⟩ := zc_sub (wc := [(oc7 sh (.ref fa) (nI ft)), (oq fa cF 200 FA), (oc1 fe2 rk2 wd2 tw2 pa2 pb2 (.ref lo2) (.ref lk2) fm2), (oc4 lk2 (kd g5) (st g5) .null gb2 jt2 we2)]) hP hD hS hA [4, 5, 8, 9] rfl rfl
          refine zcall (st1 := [.null]) (va_runV (As := [.int (nI g5)]) (rest := []) ⟨hx, hb, hml, hown, hts⟩ (k_Sheet_rowThere_tv l dC dI cI cZ cF H.size sh fa ft FA g5 fe2 lo2 rk2 wd2 tw2 pa2 pb2 lk2 (kd g5) (st g5) gb2 jt2 we2 fm2 (by first | with_reducible assumption | omega) (by first | with_reducible assumption | omega) (by first | exact hFi | exact hFA2)) (csV_62 hts rfl rfl ⟨Nat.le_of_ble_eq_true rfl, Nat.le_of_ble_eq_true rfl⟩) (zPV2 (q0 := 0) (ci := 7) hPc hDc hK hXN rfl rfl) rfl rfl hl.1 rfl (lv_room (Nat.le_of_ble_eq_true rfl)) dX4_isFreeFor_15 ⟨Nat.le_of_ble_eq_true rfl, Nat.le_of_ble_eq_true rfl⟩) hS hFc hFc rfl (fun t H locs ht hB hk1 hS => ?_)
          obtain ⟨hP1, hD1⟩ := hB
          rw [ht] at hP1
          obtain ⟨hP, hD⟩ := zkQ (W2 := [(oc3 lw (.ref dr) (.ref tg) (.ref wy) (.ref br) (.ref bo) (.ref aa)), (oc6 dr (.ref dx) (.ref dy) (nI nd) rd), (oa dx cI cd P), (oa dy cI cd Q), (oc7 sh (.ref fa) (nI ft)), (oq fa cF 200 FA), (oc1 fe rk9 wd9 tw9 pa9 pb9 (.ref lo) (.ref lk) fm9), (oc4 lk kd9 st9 (.ref r) gb9 jt9 we9), (oc1 fe2 rk2 wd2 tw2 pa2 pb2 (.ref lo2) (.ref lk2) fm2), (oc4 lk2 (kd g5) (st g5) .null gb2 jt2 we2)]) hP hD [4, 5, 8, 9] [0, 1, 2, 3, 6, 7] [0, 1, 2, 3, 6, 7] [4, 5, 8, 9] [0, 1, 2, 3, 6, 7, 4, 5, 8, 9] 10 rfl rfl rfl rfl rfl rfl rfl rfl rfl hk1 hFc hP1 hD1
          clear hk1 hPc hDc hFc hP1 hD1 ht
          refine lv_astoreN (lv' := [(5, .null), (4, .int (nI g5)), (0, .ref lw), (1, .ref sh), (2, .ref fe), (3, .ref fe)]) hx hb dX4_isFreeFor_18 hl (Nat.le_of_ble_eq_true rfl) rfl (fun ls hl => ?_)
          refine lv_aloadN hx hb dX4_isFreeFor_20 (lv_at hl 0 rfl) ?_
          refine lv_ifnullN (tgt := 74) hx hb dX4_isFreeFor_22 rfl ?_
          have hP := pl_back (cs := [(oc1 fe2 rk2 wd2 tw2 pa2 pb2 (.ref lo2) (.ref lk2) fm2), (oc4 lk2 (kd g5) (st g5) .null gb2 jt2 we2)]) (L := L) (f := f) (X := [(oc3 lw (.ref dr) (.ref tg) (.ref wy) (.ref br) (.ref bo) (.ref aa)), (oc6 dr (.ref dx) (.ref dy) (nI nd) rd), (oa dx cI cd P), (oa dy cI cd Q), (oc7 sh (.ref fa) (nI ft)), (oq fa cF 200 FA), (oc1 fe rk9 wd9 tw9 pa9 pb9 (.ref lo) (.ref lk) fm9), (oc4 lk kd9 st9 (.ref r) gb9 jt9 we9)]) (by rw [hT_1]; exact (show va_P (dC, dI) classes (([(oc3 lw (.ref dr) (.ref tg) (.ref wy) (.ref br) (.ref bo) (.ref aa)), (oc6 dr (.ref dx) (.ref dy) (nI nd) rd), (oa dx cI cd P), (oa dy cI cd Q), (oc7 sh (.ref fa) (nI ft)), (oq fa cF 200 FA), (oc1 fe rk9 wd9 tw9 pa9 pb9 (.ref lo) (.ref lk) fm9), (oc4 lk kd9 st9 (.ref r) gb9 jt9 we9)] ++ [(oc1 fe2 rk2 wd2 tw2 pa2 pb2 (.ref lo2) (.ref lk2) fm2), (oc4 lk2 (kd g5) (st g5) .null gb2 jt2 we2)]) ++ va_pl T_1 f) H from hP)) hc9_1
          have hD : va_D A ([(oc3 lw (.ref dr) (.ref tg) (.ref wy) (.ref br) (.ref bo) (.ref aa)), (oc6 dr (.ref dx) (.ref dy) (nI nd) rd), (oa dx cI cd P), (oa dy cI cd Q), (oc7 sh (.ref fa) (nI ft)), (oq fa cF 200 FA), (oc1 fe rk9 wd9 tw9 pa9 pb9 (.ref lo) (.ref lk) fm9), (oc4 lk kd9 st9 (.ref r) gb9 jt9 we9)] ++ va_pl L f) := vaD_ae hD0_1 rfl
          refine lv_iinc (v := nI (g5 + 1)) (lv' := [(4, .int (nI (g5 + 1))), (5, .null), (0, .ref lw), (1, .ref sh), (2, .ref fe), (3, .ref fe)]) hx hb dX4_isFreeFor_74 hl (k := 1) rfl (nI_add g5 1) (Nat.le_of_ble_eq_true rfl) rfl (fun ls hl => ?_)
          refine lv_goto (tgt := 3) hx hb dX4_isFreeFor_77 rfl ?_
          exact ih_3 (g5 + 1) H locs ls (by first | with_reducible assumption | omega) (by first | with_reducible assumption | omega) (by intro q hq; rcases Nat.lt_or_ge q g5 with h | h; exact hall q h; rw [show q = g5 by omega]; intro h1 h2; first | exact absurd hif h1 | exact absurd h2.2.1 hs2 | exact absurd h2.2.2 ht2 | exact ⟨by assumption, by assumption⟩) hP hD hS (lv_sub hl [0, 2, 3, 4, 5] rfl)
        · skip
          have hw2 := hwf g5 hlv2
          have hn2 := hw2.2.1
          have hq2 := rw_pls hrr2 hw2
          have hkn2 := hkn g5 hlv2
          have hcap2 := hrr2.1
          have hcap3 := hrr2.2.1
          have h1m2 : 1 ≤ nN (mn g5) := hw2.2.1.1
          have hrk2 := rgK_e hrr2.2.2.2.1
          have hc02 := hrr2.2.2.2.2 0 h1m2
          have hc9_1 : inPl L f [(oc1 fe2 rk2 wd2 tw2 pa2 pb2 (.ref lo2) (.ref lk2) fm2), (oc4 lk2 (kd g5) (st g5) (.ref r2) gb2 jt2 we2), (oc6 r2 (.ref rx2) (.ref ry2) (nI (nN (mn g5))) rg2), (oa rx2 cI cap2 U2), (oa ry2 cI cap2 V2)] := ⟨hfe2, hlk2, hr2, hrx2, hry2, trivial⟩
          have hD0_1 := hD
          obtain ⟨hP, hD⟩ := pl_out hP hD [(oc1 fe2 rk2 wd2 tw2 pa2 pb2 (.ref lo2) (.ref lk2) fm2), (oc4 lk2 (kd g5) (st g5) (.ref r2) gb2 jt2 we2), (oc6 r2 (.ref rx2) (.ref ry2) (nI (nN (mn g5))) rg2), (oa rx2 cI cap2 U2), (oa ry2 cI cap2 V2)] hc9_1 (pwR hfe2.2 hlk2.2 hr2.2 hrx2.2 hry2.2 hne2)
          generalize hT_1 : outPl L [(oc1 fe2 rk2 wd2 tw2 pa2 pb2 (.ref lo2) (.ref lk2) fm2), (oc4 lk2 (kd g5) (st g5) (.ref r2) gb2 jt2 we2), (oc6 r2 (.ref rx2) (.ref ry2) (nI (nN (mn g5))) rg2), (oa rx2 cI cap2 U2), (oa ry2 cI cap2 V2)] = T_1 at hP hD
          obtain ⟨hP, hD⟩ : zPD (dC, dI) classes A ([(oc3 lw (.ref dr) (.ref tg) (.ref wy) (.ref br) (.ref bo) (.ref aa)), (oc6 dr (.ref dx) (.ref dy) (nI nd) rd), (oa dx cI cd P), (oa dy cI cd Q), (oc7 sh (.ref fa) (nI ft)), (oq fa cF 200 FA), (oc1 fe rk9 wd9 tw9 pa9 pb9 (.ref lo) (.ref lk) fm9), (oc4 lk kd9 st9 (.ref r) gb9 jt9 we9), (oc1 fe2 rk2 wd2 tw2 pa2 pb2 (.ref lo2) (.ref lk2) fm2), (oc4 lk2 (kd g5) (st g5) (.ref r2) gb2 jt2 we2), (oc6 r2 (.ref rx2) (.ref ry2) (nI (nN (mn g5))) rg2), (oa rx2 cI cap2 U2), (oa ry2 cI cap2 V2)] ++ va_pl T_1 f) H := ⟨hP, hD⟩
          refine lv_aload_n hx hb dX4_isFreeFor_12 rfl (lv_at hl 2 rfl) ?_
          refine lv_iload hx hb dX4_isFreeFor_13 (lv_at hl 0 rfl) ?_
          obtain ⟨hPc, hDc, hFc⟩ := zc_sub (wc := [(oc7 sh (.ref fa) (nI ft)), (oq fa cF 200 FA), (oc1 fe2 rk2 wd2 tw2 pa2 pb2 (.ref lo2) (.ref lk2) fm2), (oc4 lk2 (kd g5) (st g5) (.ref r2) gb2 jt2 we2)]) hP hD hS hA [4, 5, 8, 9] rfl rfl
          refine zcall (st1 := [.ref r2]) (va_runV (As := [.int (nI g5)]) (rest := []) ⟨hx, hb, hml, hown, hts⟩ (k_Sheet_rowThere_yv l dC dI cI cZ cF H.size sh fa ft FA g5 fe2 lo2 rk2 wd2 tw2 pa2 pb2 lk2 (kd g5) (st g5) gb2 jt2 we2 r2 fm2 (by first | with_reducible assumption | omega) (by first | with_reducible assumption | omega) (by first | exact hFi | exact hFA2) (by first | exact hs1 | exact hs2 | exact hlv2.2.1)) (csV_62 hts rfl rfl ⟨Nat.le_of_ble_eq_true rfl, Nat.le_of_ble_eq_true rfl⟩) (zPV2 (q0 := 0) (ci := 7) hPc hDc hK hXN rfl rfl) rfl rfl hl.1 rfl (lv_room (Nat.le_of_ble_eq_true rfl)) dX4_isFreeFor_15 ⟨Nat.le_of_ble_eq_true rfl, Nat.le_of_ble_eq_true rfl⟩) hS hFc hFc rfl (fun t H locs ht hB hk1 hS => ?_)
          obtain ⟨hP1, hD1⟩ := hB
          rw [ht] at hP1
          obtain ⟨hP, hD⟩ := zkQ (W2 := [(oc3 lw (.ref dr) (.ref tg) (.ref wy) (.ref br) (.ref bo) (.ref aa)), (oc6 dr (.ref dx) (.ref dy) (nI nd) rd), (oa dx cI cd P), (oa dy cI cd Q), (oc7 sh (.ref fa) (nI ft)), (oq fa cF 200 FA), (oc1 fe rk9 wd9 tw9 pa9 pb9 (.ref lo) (.ref lk) fm9), (oc4 lk kd9 st9 (.ref r) gb9 jt9 we9), (oc1 fe2 rk2 wd2 tw2 pa2 pb2 (.ref lo2) (.ref lk2) fm2), (oc4 lk2 (kd g5) (st g5) (.ref r2) gb2 jt2 we2), (oc6 r2 (.ref rx2) (.ref ry2) (nI (nN (mn g5))) rg2), (oa rx2 cI cap2 U2), (oa ry2 cI cap2 V2)]) hP hD [4, 5, 8, 9] [0, 1, 2, 3, 6, 7, 10, 11, 12] [0, 1, 2, 3, 6, 7, 10, 11, 12] [4, 5, 8, 9] [0, 1, 2, 3, 9, 10, 4, 5, 11, 12, 6, 7, 8] 13 rfl rfl rfl rfl rfl rfl rfl rfl rfl hk1 hFc hP1 hD1
          clear hk1 hPc hDc hFc hP1 hD1 ht
          refine lv_astore (lv' := [(5, .ref r2), (4, .int (nI g5)), (0, .ref lw), (1, .ref sh), (2, .ref fe), (3, .ref fe)]) hx hb dX4_isFreeFor_18 hl (Nat.le_of_ble_eq_true rfl) rfl (fun ls hl => ?_)
          refine lv_aload hx hb dX4_isFreeFor_20 (lv_at hl 0 rfl) ?_
          refine lv_ifnull hx hb dX4_isFreeFor_22 ?_
          refine lv_aload_n hx hb dX4_isFreeFor_25 rfl (lv_at hl 3 rfl) ?_
          refine lv_iload hx hb dX4_isFreeFor_26 (lv_at hl 1 rfl) ?_
          obtain ⟨hPc, hDc, hFc⟩ := zc_sub (wc := [(oc7 sh (.ref fa) (nI ft)), (oq fa cF 200 FA)]) hP hD hS hA [4, 5] rfl rfl
          refine zcall (st1 := [.ref fe2]) (va_runV (As := [.int (nI g5)]) (rest := []) ⟨hx, hb, hml, hown, hts⟩ (k_Sheet_find l dC dI cI cZ cF H.size sh fa ft FA g5 fe2 (by first | with_reducible assumption | omega) (by first | with_reducible assumption | omega) (by first | exact hFi | exact hFA2)) (csV_63 hts rfl rfl ⟨Nat.le_of_ble_eq_true rfl, Nat.le_of_ble_eq_true rfl⟩) (zPV2 (q0 := 0) (ci := 7) hPc hDc hK hXN rfl rfl) rfl rfl hl.1 rfl (lv_room (Nat.le_of_ble_eq_true rfl)) dX4_isFreeFor_28 ⟨Nat.le_of_ble_eq_true rfl, Nat.le_of_ble_eq_true rfl⟩) hS hFc hFc rfl (fun t H locs ht hB hk1 hS => ?_)
          obtain ⟨hP1, hD1⟩ := hB
          rw [ht] at hP1
          obtain ⟨hP, hD⟩ := zkQ (W2 := [(oc3 lw (.ref dr) (.ref tg) (.ref wy) (.ref br) (.ref bo) (.ref aa)), (oc6 dr (.ref dx) (.ref dy) (nI nd) rd), (oa dx cI cd P), (oa dy cI cd Q), (oc7 sh (.ref fa) (nI ft)), (oq fa cF 200 FA), (oc1 fe rk9 wd9 tw9 pa9 pb9 (.ref lo) (.ref lk) fm9), (oc4 lk kd9 st9 (.ref r) gb9 jt9 we9), (oc1 fe2 rk2 wd2 tw2 pa2 pb2 (.ref lo2) (.ref lk2) fm2), (oc4 lk2 (kd g5) (st g5) (.ref r2) gb2 jt2 we2), (oc6 r2 (.ref rx2) (.ref ry2) (nI (nN (mn g5))) rg2), (oa rx2 cI cap2 U2), (oa ry2 cI cap2 V2)]) hP hD [4, 5] [0, 1, 2, 3, 6, 7, 8, 9, 10, 11, 12] [0, 1, 2, 3, 6, 7, 8, 9, 10, 11, 12] [4, 5] [0, 1, 2, 3, 11, 12, 4, 5, 6, 7, 8, 9, 10] 13 rfl rfl rfl rfl rfl rfl rfl rfl rfl hk1 hFc hP1 hD1
          clear hk1 hPc hDc hFc hP1 hD1 ht
          refine lv_aload_n hx hb dX4_isFreeFor_31 rfl (lv_at hl 4 rfl) ?_
          refine z_acmpeq (rx := fe2) (ry := fe) (tgt := 74) hx hb dX4_isFreeFor_32 (by decide) (fun c_5 => ?_) (fun c_5 => ?_)
          · have c_5 : fe2 = fe := c_5
            exfalso; exact absurd (by first | with_reducible assumption | assumption) (pl_sep (q := (oc1 fe rk9 wd9 tw9 pa9 pb9 (.ref lo) (.ref lk) fm9)) hD0_1 (by simp) hfe2.1)
          · have c_5 : ¬ fe2 = fe := c_5
            refine lv_aload_n hx hb dX4_isFreeFor_35 rfl (lv_at hl 3 rfl) ?_
            refine lv_iload hx hb dX4_isFreeFor_36 (lv_at hl 1 rfl) ?_
            obtain ⟨hPc, hDc, hFc⟩ := zc_sub (wc := [(oc7 sh (.ref fa) (nI ft)), (oq fa cF 200 FA)]) hP hD hS hA [4, 5] rfl rfl
            refine zcall (st1 := [.ref fe2]) (va_runV (As := [.int (nI g5)]) (rest := []) ⟨hx, hb, hml, hown, hts⟩ (k_Sheet_find l dC dI cI cZ cF H.size sh fa ft FA g5 fe2 (by first | with_reducible assumption | omega) (by first | with_reducible assumption | omega) (by first | exact hFi | exact hFA2)) (csV_63 hts rfl rfl ⟨Nat.le_of_ble_eq_true rfl, Nat.le_of_ble_eq_true rfl⟩) (zPV2 (q0 := 0) (ci := 7) hPc hDc hK hXN rfl rfl) rfl rfl hl.1 rfl (lv_room (Nat.le_of_ble_eq_true rfl)) dX4_isFreeFor_38 ⟨Nat.le_of_ble_eq_true rfl, Nat.le_of_ble_eq_true rfl⟩) hS hFc hFc rfl (fun t H locs ht hB hk1 hS => ?_)
            obtain ⟨hP1, hD1⟩ := hB
            rw [ht] at hP1
            obtain ⟨hP, hD⟩ := zkQ (W2 := [(oc3 lw (.ref dr) (.ref tg) (.ref wy) (.ref br) (.ref bo) (.ref aa)), (oc6 dr (.ref dx) (.ref dy) (nI nd) rd), (oa dx cI cd P), (oa dy cI cd Q), (oc7 sh (.ref fa) (nI ft)), (oq fa cF 200 FA), (oc1 fe rk9 wd9 tw9 pa9 pb9 (.ref lo) (.ref lk) fm9), (oc4 lk kd9 st9 (.ref r) gb9 jt9 we9), (oc1 fe2 rk2 wd2 tw2 pa2 pb2 (.ref lo2) (.ref lk2) fm2), (oc4 lk2 (kd g5) (st g5) (.ref r2) gb2 jt2 we2), (oc6 r2 (.ref rx2) (.ref ry2) (nI (nN (mn g5))) rg2), (oa rx2 cI cap2 U2), (oa ry2 cI cap2 V2)]) hP hD [4, 5] [0, 1, 2, 3, 6, 7, 8, 9, 10, 11, 12] [0, 1, 2, 3, 6, 7, 8, 9, 10, 11, 12] [4, 5] [0, 1, 2, 3, 11, 12, 4, 5, 6, 7, 8, 9, 10] 13 rfl rfl rfl rfl rfl rfl rfl rfl rfl hk1 hFc hP1 hD1
            clear hk1 hPc hDc hFc hP1 hD1 ht
            refine lv_aload_n hx hb dX4_isFreeFor_41 rfl (lv_at hl 5 rfl) ?_
            refine z_acmpne (rx := fe2) (ry := fe) (tgt := 48) hx hb dX4_isFreeFor_42 (by decide) (fun c_6 => ?_) (fun c_6 => ?_)
            · have c_6 : ¬ fe2 = fe := c_6
              refine lv_aload_n hx hb dX4_isFreeFor_48 rfl (lv_at hl 2 rfl) ?_
              refine va_get (D := (dC, dI)) (ci := 3) (v := .ref dr) (C := RX4) (T := TX4) (N := 6) hx hb hts inX4 hown hK hP 0 rfl rfl 0 (Nat.le_of_ble_eq_true rfl) (hts _ mw_219) (fun _ h9 => h9) rfl dX4_isFreeFor_49 ?_
              refine lv_aload hx hb dX4_isFreeFor_52 (lv_at hl 0 rfl) ?_
              obtain ⟨hPc, hDc, hFc⟩ := zc_sub (wc := [(oc6 dr (.ref dx) (.ref dy) (nI nd) rd), (oa dx cI cd P), (oa dy cI cd Q), (oc6 r2 (.ref rx2) (.ref ry2) (nI (nN (mn g5))) rg2), (oa rx2 cI cap2 U2), (oa ry2 cI cap2 V2)]) hP hD hS hA [1, 2, 3, 10, 11, 12] rfl rfl
              refine zcall (st1 := [.int (pI (∃ i, i < prt nd rd ∧ ∃ j, j < prt (nN (mn g5)) rg2 ∧ eMt nd P Q i (nN (mn g5)) U2 V2 j))]) (va_runV (As := [.ref r2]) (rest := []) ⟨hx, hb, hml, hown, hts⟩ (k_Row_touches l dC dI cI cZ cF H.size dr dx dy nd cd P Q rd r2 rx2 ry2 (nN (mn g5)) cap2 U2 V2 rg2 (by first | with_reducible assumption | omega) (by first | with_reducible assumption | omega) (hpd) (by first | with_reducible assumption | omega) (by first | with_reducible assumption | omega) (hq2)) (csV_56 hts rfl rfl ⟨Nat.le_of_ble_eq_true rfl, Nat.le_of_ble_eq_true rfl⟩) (zPV2 (q0 := 0) (ci := 6) hPc hDc hK hXN rfl rfl) rfl rfl hl.1 rfl (lv_room (Nat.le_of_ble_eq_true rfl)) dX4_isFreeFor_54 ⟨Nat.le_of_ble_eq_true rfl, Nat.le_of_ble_eq_true rfl⟩) hS hFc hFc rfl (fun t H locs ht hB hk1 hS => ?_)
              obtain ⟨hP1, hD1⟩ := hB
              rw [ht] at hP1
              obtain ⟨hP, hD⟩ := zkQ (W2 := [(oc3 lw (.ref dr) (.ref tg) (.ref wy) (.ref br) (.ref bo) (.ref aa)), (oc6 dr (.ref dx) (.ref dy) (nI nd) rd), (oa dx cI cd P), (oa dy cI cd Q), (oc7 sh (.ref fa) (nI ft)), (oq fa cF 200 FA), (oc1 fe rk9 wd9 tw9 pa9 pb9 (.ref lo) (.ref lk) fm9), (oc4 lk kd9 st9 (.ref r) gb9 jt9 we9), (oc1 fe2 rk2 wd2 tw2 pa2 pb2 (.ref lo2) (.ref lk2) fm2), (oc4 lk2 (kd g5) (st g5) (.ref r2) gb2 jt2 we2), (oc6 r2 (.ref rx2) (.ref ry2) (nI (nN (mn g5))) rg2), (oa rx2 cI cap2 U2), (oa ry2 cI cap2 V2)]) hP hD [1, 2, 3, 10, 11, 12] [0, 4, 5, 6, 7, 8, 9] [0, 4, 5, 6, 7, 8, 9] [1, 2, 3, 10, 11, 12] [0, 7, 8, 9, 1, 2, 3, 4, 5, 6, 10, 11, 12] 13 rfl rfl rfl rfl rfl rfl rfl rfl rfl hk1 hFc hP1 hD1
              clear hk1 hPc hDc hFc hP1 hD1 ht
              refine zz_i (v := pI (tch nd P Q rd (nN (mn g5)) (cF40 cx g5) (cF40 cy g5) (rgK (kd g5).toInt))) (by rw [← hrk2]; exact zp_iff (tch_cg hrr2.2.2.2.2)) ?_
              refine lv_if_ne (tgt := 72) hx hb dX4_isFreeFor_57 rfl (fun c_7 => ?_) (fun c_7 => ?_)
              · have c_7 : tch nd P Q rd (nN (mn g5)) (cF40 cx g5) (cF40 cy g5) (rgK (kd g5).toInt) := zp_1 c_7
                have hP := pl_back (cs := [(oc1 fe2 rk2 wd2 tw2 pa2 pb2 (.ref lo2) (.ref lk2) fm2), (oc4 lk2 (kd g5) (st g5) (.ref r2) gb2 jt2 we2), (oc6 r2 (.ref rx2) (.ref ry2) (nI (nN (mn g5))) rg2), (oa rx2 cI cap2 U2), (oa ry2 cI cap2 V2)]) (L := L) (f := f) (X := [(oc3 lw (.ref dr) (.ref tg) (.ref wy) (.ref br) (.ref bo) (.ref aa)), (oc6 dr (.ref dx) (.ref dy) (nI nd) rd), (oa dx cI cd P), (oa dy cI cd Q), (oc7 sh (.ref fa) (nI ft)), (oq fa cF 200 FA), (oc1 fe rk9 wd9 tw9 pa9 pb9 (.ref lo) (.ref lk) fm9), (oc4 lk kd9 st9 (.ref r) gb9 jt9 we9)]) (by rw [hT_1]; exact (show va_P (dC, dI) classes (([(oc3 lw (.ref dr) (.ref tg) (.ref wy) (.ref br) (.ref bo) (.ref aa)), (oc6 dr (.ref dx) (.ref dy) (nI nd) rd), (oa dx cI cd P), (oa dy cI cd Q), (oc7 sh (.ref fa) (nI ft)), (oq fa cF 200 FA), (oc1 fe rk9 wd9 tw9 pa9 pb9 (.ref lo) (.ref lk) fm9), (oc4 lk kd9 st9 (.ref r) gb9 jt9 we9)] ++ [(oc1 fe2 rk2 wd2 tw2 pa2 pb2 (.ref lo2) (.ref lk2) fm2), (oc4 lk2 (kd g5) (st g5) (.ref r2) gb2 jt2 we2), (oc6 r2 (.ref rx2) (.ref ry2) (nI (nN (mn g5))) rg2), (oa rx2 cI cap2 U2), (oa ry2 cI cap2 V2)]) ++ va_pl T_1 f) H from hP)) hc9_1
                have hD : va_D A ([(oc3 lw (.ref dr) (.ref tg) (.ref wy) (.ref br) (.ref bo) (.ref aa)), (oc6 dr (.ref dx) (.ref dy) (nI nd) rd), (oa dx cI cd P), (oa dy cI cd Q), (oc7 sh (.ref fa) (nI ft)), (oq fa cF 200 FA), (oc1 fe rk9 wd9 tw9 pa9 pb9 (.ref lo) (.ref lk) fm9), (oc4 lk kd9 st9 (.ref r) gb9 jt9 we9)] ++ va_pl L f) := vaD_ae hD0_1 rfl
                refine lv_iconst (v := 0) hx hb dX4_isFreeFor_72 rfl ?_
                obtain ⟨hP9, hD9⟩ := zq_part (cx := [(oc3 lw (.ref dr) (.ref tg) (.ref wy) (.ref br) (.ref bo) (.ref aa)), (oc6 dr (.ref dx) (.ref dy) (nI nd) rd), (oa dx cI cd P), (oa dy cI cd Q), (oc7 sh (.ref fa) (nI ft)), (oq fa cF 200 FA), (oc1 fe rk9 wd9 tw9 pa9 pb9 (.ref lo) (.ref lk) fm9), (oc4 lk kd9 st9 (.ref r) gb9 jt9 we9)]) hP hD [0, 1, 2, 3, 4, 5, 6, 7] rfl rfl
                rw [hQ9]
                exact W.zret (ty := .boolean) (v := 0) hx hb hr (rfl) (fun t ht hW => ⟨⟨congrArg (fun z => Outcome.returned (some (Value.int z))) (show (0 : Int32) = pI (∀ q, q < ft → (q ≠ f0 → lvF ft st tn q → ¬ tch nd P Q rd (nN (mn q)) (cF40 cx q) (cF40 cy q) (rgK (kd q).toInt) ∧ ¬ inF 5 nd P Q (cF40 cx q 0).toInt (cF40 cy q 0).toInt)) from (zp_f (fun h => by have h9 := h g5 (by omega) hif hlv2; first | exact absurd (by first | with_reducible assumption | assumption) h9.1 | exact absurd (by first | with_reducible assumption | assumption) h9.2)).symm), by rw [ht]; exact hP9, hD9⟩, hS.F ht⟩) hS.2.2 dX4_isFreeFor_73
              · have c_7 : ¬ (tch nd P Q rd (nN (mn g5)) (cF40 cx g5) (cF40 cy g5) (rgK (kd g5).toInt)) := zp_0 c_7
                refine lv_aload_n hx hb dX4_isFreeFor_60 rfl (lv_at hl 2 rfl) ?_
                refine va_get (D := (dC, dI)) (ci := 3) (v := .ref dr) (C := RX4) (T := TX4) (N := 6) hx hb hts inX4 hown hK hP 0 rfl rfl 0 (Nat.le_of_ble_eq_true rfl) (hts _ mw_219) (fun _ h9 => h9) rfl dX4_isFreeFor_61 ?_
                refine lv_aload hx hb dX4_isFreeFor_64 (lv_at hl 0 rfl) ?_
                obtain ⟨hPc, hDc, hFc⟩ := zc_sub (wc := [(oc6 dr (.ref dx) (.ref dy) (nI nd) rd), (oa dx cI cd P), (oa dy cI cd Q), (oc6 r2 (.ref rx2) (.ref ry2) (nI (nN (mn g5))) rg2), (oa rx2 cI cap2 U2), (oa ry2 cI cap2 V2)]) hP hD hS hA [1, 2, 3, 10, 11, 12] rfl rfl
                refine zcall (st1 := [.int (pI (inF 5 nd P Q (U2 0).toInt (V2 0).toInt))]) (va_runS (As := [.ref dr, .ref r2]) (rest := []) ⟨hx, hb, hml, hown, hts⟩ (k_Law_isIn l dC dI cI cZ cF H.size dr dx dy nd cd P Q rd r2 rx2 ry2 (nN (mn g5)) cap2 U2 V2 rg2 (by first | with_reducible assumption | omega) (by first | with_reducible assumption | omega) (hpd) (by first | with_reducible assumption | omega) (by first | with_reducible assumption | omega) (hq2) (by first | with_reducible assumption | omega)) (csS_61 hts rfl rfl ⟨Nat.le_of_ble_eq_true rfl, Nat.le_of_ble_eq_true rfl⟩) (zPS2 hPc hDc hK hXN) rfl rfl hl.1 rfl (lv_room (Nat.le_of_ble_eq_true rfl)) dX4_isFreeFor_66 ⟨Nat.le_of_ble_eq_true rfl, Nat.le_of_ble_eq_true rfl⟩) hS hFc hFc rfl (fun t H locs ht hB hk1 hS => ?_)
                obtain ⟨hP1, hD1⟩ := hB
                rw [ht] at hP1
                obtain ⟨hP, hD⟩ := zkQ (W2 := [(oc3 lw (.ref dr) (.ref tg) (.ref wy) (.ref br) (.ref bo) (.ref aa)), (oc6 dr (.ref dx) (.ref dy) (nI nd) rd), (oa dx cI cd P), (oa dy cI cd Q), (oc7 sh (.ref fa) (nI ft)), (oq fa cF 200 FA), (oc1 fe rk9 wd9 tw9 pa9 pb9 (.ref lo) (.ref lk) fm9), (oc4 lk kd9 st9 (.ref r) gb9 jt9 we9), (oc1 fe2 rk2 wd2 tw2 pa2 pb2 (.ref lo2) (.ref lk2) fm2), (oc4 lk2 (kd g5) (st g5) (.ref r2) gb2 jt2 we2), (oc6 r2 (.ref rx2) (.ref ry2) (nI (nN (mn g5))) rg2), (oa rx2 cI cap2 U2), (oa ry2 cI cap2 V2)]) hP hD [1, 2, 3, 10, 11, 12] [0, 4, 5, 6, 7, 8, 9] [0, 4, 5, 6, 7, 8, 9] [1, 2, 3, 10, 11, 12] [0, 7, 8, 9, 1, 2, 3, 4, 5, 6, 10, 11, 12] 13 rfl rfl rfl rfl rfl rfl rfl rfl rfl hk1 hFc hP1 hD1
                clear hk1 hPc hDc hFc hP1 hD1 ht
                refine zz_i (v := pI (inF 5 nd P Q (cF40 cx g5 0).toInt (cF40 cy g5 0).toInt)) (by rw [← hc02.1, ← hc02.2]) ?_
                refine lv_if_eq (tgt := 74) hx hb dX4_isFreeFor_69 rfl (fun c_8 => ?_) (fun c_8 => ?_)
                · have c_8 : ¬ (inF 5 nd P Q (cF40 cx g5 0).toInt (cF40 cy g5 0).toInt) := zp_0 c_8
                  have hP := pl_back (cs := [(oc1 fe2 rk2 wd2 tw2 pa2 pb2 (.ref lo2) (.ref lk2) fm2), (oc4 lk2 (kd g5) (st g5) (.ref r2) gb2 jt2 we2), (oc6 r2 (.ref rx2) (.ref ry2) (nI (nN (mn g5))) rg2), (oa rx2 cI cap2 U2), (oa ry2 cI cap2 V2)]) (L := L) (f := f) (X := [(oc3 lw (.ref dr) (.ref tg) (.ref wy) (.ref br) (.ref bo) (.ref aa)), (oc6 dr (.ref dx) (.ref dy) (nI nd) rd), (oa dx cI cd P), (oa dy cI cd Q), (oc7 sh (.ref fa) (nI ft)), (oq fa cF 200 FA), (oc1 fe rk9 wd9 tw9 pa9 pb9 (.ref lo) (.ref lk) fm9), (oc4 lk kd9 st9 (.ref r) gb9 jt9 we9)]) (by rw [hT_1]; exact (show va_P (dC, dI) classes (([(oc3 lw (.ref dr) (.ref tg) (.ref wy) (.ref br) (.ref bo) (.ref aa)), (oc6 dr (.ref dx) (.ref dy) (nI nd) rd), (oa dx cI cd P), (oa dy cI cd Q), (oc7 sh (.ref fa) (nI ft)), (oq fa cF 200 FA), (oc1 fe rk9 wd9 tw9 pa9 pb9 (.ref lo) (.ref lk) fm9), (oc4 lk kd9 st9 (.ref r) gb9 jt9 we9)] ++ [(oc1 fe2 rk2 wd2 tw2 pa2 pb2 (.ref lo2) (.ref lk2) fm2), (oc4 lk2 (kd g5) (st g5) (.ref r2) gb2 jt2 we2), (oc6 r2 (.ref rx2) (.ref ry2) (nI (nN (mn g5))) rg2), (oa rx2 cI cap2 U2), (oa ry2 cI cap2 V2)]) ++ va_pl T_1 f) H from hP)) hc9_1
                  have hD : va_D A ([(oc3 lw (.ref dr) (.ref tg) (.ref wy) (.ref br) (.ref bo) (.ref aa)), (oc6 dr (.ref dx) (.ref dy) (nI nd) rd), (oa dx cI cd P), (oa dy cI cd Q), (oc7 sh (.ref fa) (nI ft)), (oq fa cF 200 FA), (oc1 fe rk9 wd9 tw9 pa9 pb9 (.ref lo) (.ref lk) fm9), (oc4 lk kd9 st9 (.ref r) gb9 jt9 we9)] ++ va_pl L f) := vaD_ae hD0_1 rfl
                  refine lv_iinc (v := nI (g5 + 1)) (lv' := [(4, .int (nI (g5 + 1))), (5, .ref r2), (0, .ref lw), (1, .ref sh), (2, .ref fe), (3, .ref fe)]) hx hb dX4_isFreeFor_74 hl (k := 1) rfl (nI_add g5 1) (Nat.le_of_ble_eq_true rfl) rfl (fun ls hl => ?_)
                  refine lv_goto (tgt := 3) hx hb dX4_isFreeFor_77 rfl ?_
                  exact ih_3 (g5 + 1) H locs ls (by first | with_reducible assumption | omega) (by first | with_reducible assumption | omega) (by intro q hq; rcases Nat.lt_or_ge q g5 with h | h; exact hall q h; rw [show q = g5 by omega]; intro h1 h2; first | exact absurd hif h1 | exact absurd h2.2.1 hs2 | exact absurd h2.2.2 ht2 | exact ⟨by assumption, by assumption⟩) hP hD hS (lv_sub hl [0, 2, 3, 4, 5] rfl)
                · have c_8 : inF 5 nd P Q (cF40 cx g5 0).toInt (cF40 cy g5 0).toInt := zp_1 c_8
                  have hP := pl_back (cs := [(oc1 fe2 rk2 wd2 tw2 pa2 pb2 (.ref lo2) (.ref lk2) fm2), (oc4 lk2 (kd g5) (st g5) (.ref r2) gb2 jt2 we2), (oc6 r2 (.ref rx2) (.ref ry2) (nI (nN (mn g5))) rg2), (oa rx2 cI cap2 U2), (oa ry2 cI cap2 V2)]) (L := L) (f := f) (X := [(oc3 lw (.ref dr) (.ref tg) (.ref wy) (.ref br) (.ref bo) (.ref aa)), (oc6 dr (.ref dx) (.ref dy) (nI nd) rd), (oa dx cI cd P), (oa dy cI cd Q), (oc7 sh (.ref fa) (nI ft)), (oq fa cF 200 FA), (oc1 fe rk9 wd9 tw9 pa9 pb9 (.ref lo) (.ref lk) fm9), (oc4 lk kd9 st9 (.ref r) gb9 jt9 we9)]) (by rw [hT_1]; exact (show va_P (dC, dI) classes (([(oc3 lw (.ref dr) (.ref tg) (.ref wy) (.ref br) (.ref bo) (.ref aa)), (oc6 dr (.ref dx) (.ref dy) (nI nd) rd), (oa dx cI cd P), (oa dy cI cd Q), (oc7 sh (.ref fa) (nI ft)), (oq fa cF 200 FA), (oc1 fe rk9 wd9 tw9 pa9 pb9 (.ref lo) (.ref lk) fm9), (oc4 lk kd9 st9 (.ref r) gb9 jt9 we9)] ++ [(oc1 fe2 rk2 wd2 tw2 pa2 pb2 (.ref lo2) (.ref lk2) fm2), (oc4 lk2 (kd g5) (st g5) (.ref r2) gb2 jt2 we2), (oc6 r2 (.ref rx2) (.ref ry2) (nI (nN (mn g5))) rg2), (oa rx2 cI cap2 U2), (oa ry2 cI cap2 V2)]) ++ va_pl T_1 f) H from hP)) hc9_1
                  have hD : va_D A ([(oc3 lw (.ref dr) (.ref tg) (.ref wy) (.ref br) (.ref bo) (.ref aa)), (oc6 dr (.ref dx) (.ref dy) (nI nd) rd), (oa dx cI cd P), (oa dy cI cd Q), (oc7 sh (.ref fa) (nI ft)), (oq fa cF 200 FA), (oc1 fe rk9 wd9 tw9 pa9 pb9 (.ref lo) (.ref lk) fm9), (oc4 lk kd9 st9 (.ref r) gb9 jt9 we9)] ++ va_pl L f) := vaD_ae hD0_1 rfl
                  refine lv_iconst (v := 0) hx hb dX4_isFreeFor_72 rfl ?_
                  obtain ⟨hP9, hD9⟩ := zq_part (cx := [(oc3 lw (.ref dr) (.ref tg) (.ref wy) (.ref br) (.ref bo) (.ref aa)), (oc6 dr (.ref dx) (.ref dy) (nI nd) rd), (oa dx cI cd P), (oa dy cI cd Q), (oc7 sh (.ref fa) (nI ft)), (oq fa cF 200 FA), (oc1 fe rk9 wd9 tw9 pa9 pb9 (.ref lo) (.ref lk) fm9), (oc4 lk kd9 st9 (.ref r) gb9 jt9 we9)]) hP hD [0, 1, 2, 3, 4, 5, 6, 7] rfl rfl
                  rw [hQ9]
                  exact W.zret (ty := .boolean) (v := 0) hx hb hr (rfl) (fun t ht hW => ⟨⟨congrArg (fun z => Outcome.returned (some (Value.int z))) (show (0 : Int32) = pI (∀ q, q < ft → (q ≠ f0 → lvF ft st tn q → ¬ tch nd P Q rd (nN (mn q)) (cF40 cx q) (cF40 cy q) (rgK (kd q).toInt) ∧ ¬ inF 5 nd P Q (cF40 cx q 0).toInt (cF40 cy q 0).toInt)) from (zp_f (fun h => by have h9 := h g5 (by omega) hif hlv2; first | exact absurd (by first | with_reducible assumption | assumption) h9.1 | exact absurd (by first | with_reducible assumption | assumption) h9.2)).symm), by rw [ht]; exact hP9, hD9⟩, hS.F ht⟩) hS.2.2 dX4_isFreeFor_73
            · have c_6 : fe2 = fe := c_6
              exfalso; exact absurd (by first | with_reducible assumption | assumption) (pl_sep (q := (oc1 fe rk9 wd9 tw9 pa9 pb9 (.ref lo) (.ref lk) fm9)) hD0_1 (by simp) hfe2.1)
  exact hl_3 _ 0 s.heap [] ls (Nat.lt_succ_self _) (by first | with_reducible assumption | omega) (by intro q hq; omega) hP hD hS (lv_sub hl [0, 1, 2, 3, 4] rfl)
set_option maxHeartbeats 4000000 in
set_option maxRecDepth 100000 in
theorem k_Law_isFreeFor_2 (l : Launch) (dC : Nat → ClassId) (dI : Nat → Nat → Nat) (cI cZ cF : ClassId) (sz : Nat) (lw : Nat) (dr : Nat) (tg : Nat) (wy : Nat) (br : Nat) (bo : Nat) (aa : Nat) (dx : Nat) (dy : Nat) (nd : Nat) (cd : Nat) (P : Nat → Int32) (Q : Nat → Int32) (rd : Int32) (sh : Nat) (fa : Nat) (ft : Nat) (FA : Nat → Option Nat) (fe : Nat) (lo : Nat) (rk9 : Int32) (wd9 : Int32) (tw9 : Int32) (pa9 : Int32) (pb9 : Int32) (lk : Nat) (kd9 : Int32) (st9 : Int32) (gb9 : Int32) (jt9 : Int32) (we9 : Int32) (r : Nat) (f0 : Nat) (fm9 : Value) (fe3 : Nat) (lo3 : Nat) (lk3 : Nat) (r3 : Nat) (g0 : Nat) (rk3 : Int32) (wd3 : Int32) (tw3 : Int32) (pa3 : Int32) (pb3 : Int32) (kd3 : Int32) (st3 : Int32) (gb3 : Int32) (jt3 : Int32) (we3 : Int32) (fm3 : Value) (L : List Nat) (f : Nat → va_E) (kd : Nat → Int32) (st : Nat → Int32) (tn : Nat → Int32) (mn : Nat → Int32) (cx : Nat → Int32) (cy : Nat → Int32) (h200 : ft ≤ 200) (hf0 : f0 < ft) (hFA : FA f0 = some fe) (hs1 : st9.toInt = 1) (hg0 : g0 < ft) (hFA3 : FA g0 = some fe3) (hs3 : st3.toInt = 1) (hvw : ∀ q, q < ft → q ≠ f0 → q ≠ g0 → vwO cI L f FA kd st tn mn cx cy q) (hwf : ∀ q, lvF ft st tn q → wfM mn cx cy q) (hkn : okN ft st tn kd mn) (hnd : nd ≤ cd) (hcd : cd ≤ 1000) (hpd : pls nd P Q) : Met l yX4_isFreeFor (.code yX4_isFreeFor cX4_isFreeFor 6 (some .boolean) :: ws0) ({ frames := 3, cells := 0, slots := 0, locals := 65 } : Room) (va_Pc [.ref lw, .ref sh, .ref fe, .ref fe3] (zPre (dC, dI) classes (zTy cI cZ cF) ([(oc3 lw (.ref dr) (.ref tg) (.ref wy) (.ref br) (.ref bo) (.ref aa)), (oc6 dr (.ref dx) (.ref dy) (nI nd) rd), (oa dx cI cd P), (oa dy cI cd Q), (oc7 sh (.ref fa) (nI ft)), (oq fa cF 200 FA), (oc1 fe rk9 wd9 tw9 pa9 pb9 (.ref lo) (.ref lk) fm9), (oc4 lk kd9 st9 (.ref r) gb9 jt9 we9), (oc1 fe3 rk3 wd3 tw3 pa3 pb3 (.ref lo3) (.ref lk3) fm3), (oc4 lk3 kd3 st3 (.ref r3) gb3 jt3 we3)] ++ va_pl L f) sz zXN)) (zQ (some (.int (pI (∀ q, q < ft → (q ≠ f0 → q ≠ g0 → lvF ft st tn q → ¬ tch nd P Q rd (nN (mn q)) (cF40 cx q) (cF40 cy q) (rgK (kd q).toInt) ∧ ¬ inF 5 nd P Q (cF40 cx q 0).toInt (cF40 cy q 0).toInt))))) (fun t => va_P (dC, dI) classes ([(oc3 lw (.ref dr) (.ref tg) (.ref wy) (.ref br) (.ref bo) (.ref aa)), (oc6 dr (.ref dx) (.ref dy) (nI nd) rd), (oa dx cI cd P), (oa dy cI cd Q), (oc7 sh (.ref fa) (nI ft)), (oq fa cF 200 FA), (oc1 fe rk9 wd9 tw9 pa9 pb9 (.ref lo) (.ref lk) fm9), (oc4 lk kd9 st9 (.ref r) gb9 jt9 we9), (oc1 fe3 rk3 wd3 tw3 pa3 pb3 (.ref lo3) (.ref lk3) fm3), (oc4 lk3 kd3 st3 (.ref r3) gb3 jt3 we3)] ++ va_pl L f) t.heap ∧ va_D (va_A ([(oc3 lw (.ref dr) (.ref tg) (.ref wy) (.ref br) (.ref bo) (.ref aa)), (oc6 dr (.ref dx) (.ref dy) (nI nd) rd), (oa dx cI cd P), (oa dy cI cd Q), (oc7 sh (.ref fa) (nI ft)), (oq fa cF 200 FA), (oc1 fe rk9 wd9 tw9 pa9 pb9 (.ref lo) (.ref lk) fm9), (oc4 lk kd9 st9 (.ref r) gb9 jt9 we9), (oc1 fe3 rk3 wd3 tw3 pa3 pb3 (.ref lo3) (.ref lk3) fm3), (oc4 lk3 kd3 st3 (.ref r3) gb3 jt3 we3)] ++ va_pl L f) sz) ([(oc3 lw (.ref dr) (.ref tg) (.ref wy) (.ref br) (.ref bo) (.ref aa)), (oc6 dr (.ref dx) (.ref dy) (nI nd) rd), (oa dx cI cd P), (oa dy cI cd Q), (oc7 sh (.ref fa) (nI ft)), (oq fa cF 200 FA), (oc1 fe rk9 wd9 tw9 pa9 pb9 (.ref lo) (.ref lk) fm9), (oc4 lk kd9 st9 (.ref r) gb9 jt9 we9), (oc1 fe3 rk3 wd3 tw3 pa3 pb3 (.ref lo3) (.ref lk3) fm3), (oc4 lk3 kd3 st3 (.ref r3) gb3 jt3 we3)] ++ va_pl L f)) (va_A ([(oc3 lw (.ref dr) (.ref tg) (.ref wy) (.ref br) (.ref bo) (.ref aa)), (oc6 dr (.ref dx) (.ref dy) (nI nd) rd), (oa dx cI cd P), (oa dy cI cd Q), (oc7 sh (.ref fa) (nI ft)), (oq fa cF 200 FA), (oc1 fe rk9 wd9 tw9 pa9 pb9 (.ref lo) (.ref lk) fm9), (oc4 lk kd9 st9 (.ref r) gb9 jt9 we9), (oc1 fe3 rk3 wd3 tw3 pa3 pb3 (.ref lo3) (.ref lk3) fm3), (oc4 lk3 kd3 st3 (.ref r3) gb3 jt3 we3)] ++ va_pl L f) sz)) 0 0 (va_A ([(oc3 lw (.ref dr) (.ref tg) (.ref wy) (.ref br) (.ref bo) (.ref aa)), (oc6 dr (.ref dx) (.ref dy) (nI nd) rd), (oa dx cI cd P), (oa dy cI cd Q), (oc7 sh (.ref fa) (nI ft)), (oq fa cF 200 FA), (oc1 fe rk9 wd9 tw9 pa9 pb9 (.ref lo) (.ref lk) fm9), (oc4 lk kd9 st9 (.ref r) gb9 jt9 we9), (oc1 fe3 rk3 wd3 tw3 pa3 pb3 (.ref lo3) (.ref lk3) fm3), (oc4 lk3 kd3 st3 (.ref r3) gb3 jt3 we3)] ++ va_pl L f) sz) := by
  refine Met.ofW (cc := cX4_isFreeFor) (maxL := 6) (ret := (some .boolean)) rfl rfl ?_
  intro p e s m args below meth c s₁ B hml hv
  obtain ⟨rfl, hsz, hP, hK, hD0, hXN⟩ := hv
  have hx := B.exec
  have hb := B.bytes
  have hr := B.returns
  have hts0 := atoms_spec (ws := .code yX4_isFreeFor cX4_isFreeFor 6 (some .boolean) :: ws0) B.pre
  have hts : ∀ w9 ∈ ws0, w9.before ([.ref lw, .ref sh, .ref fe, .ref fe3] : List Value).toArray s = true := fun w9 h => hts0 w9 (List.mem_cons_of_mem _ h)
  have hown : s.vm.findClass "ScaleShop$Law" = some m.cls := findClass_of_methodNamed B.named
  have hlocks := B.notSynchronized
  subst hsz
  have hD := hD0.self (sz := s.heap.size)
  clear hD0
  generalize hAe : va_A ([(oc3 lw (.ref dr) (.ref tg) (.ref wy) (.ref br) (.ref bo) (.ref aa)), (oc6 dr (.ref dx) (.ref dy) (nI nd) rd), (oa dx cI cd P), (oa dy cI cd Q), (oc7 sh (.ref fa) (nI ft)), (oq fa cF 200 FA), (oc1 fe rk9 wd9 tw9 pa9 pb9 (.ref lo) (.ref lk) fm9), (oc4 lk kd9 st9 (.ref r) gb9 jt9 we9), (oc1 fe3 rk3 wd3 tw3 pa3 pb3 (.ref lo3) (.ref lk3) fm3), (oc4 lk3 kd3 st3 (.ref r3) gb3 jt3 we3)] ++ va_pl L f) s.heap.size = A at hD ⊢
  have hA : ∀ q : Nat, s.heap.size ≤ q → A q := fun q h => by rw [← hAe]; exact Or.inr h
  clear hAe
  have hS : va_S A s.heap s.heap [] := va_S.rf
  have hP : va_P (dC, dI) classes ([(oc3 lw (.ref dr) (.ref tg) (.ref wy) (.ref br) (.ref bo) (.ref aa)), (oc6 dr (.ref dx) (.ref dy) (nI nd) rd), (oa dx cI cd P), (oa dy cI cd Q), (oc7 sh (.ref fa) (nI ft)), (oq fa cF 200 FA), (oc1 fe rk9 wd9 tw9 pa9 pb9 (.ref lo) (.ref lk) fm9), (oc4 lk kd9 st9 (.ref r) gb9 jt9 we9), (oc1 fe3 rk3 wd3 tw3 pa3 pb3 (.ref lo3) (.ref lk3) fm3), (oc4 lk3 kd3 st3 (.ref r3) gb3 jt3 we3)] ++ va_pl L f) s.heap := hP
  obtain ⟨Q9, hQ9⟩ : ∃ Q9 : State → Prop, Q9 = MQ below (zQ (some (.int (pI (∀ q, q < ft → (q ≠ f0 → q ≠ g0 → lvF ft st tn q → ¬ tch nd P Q rd (nN (mn q)) (cF40 cx q) (cF40 cy q) (rgK (kd q).toInt) ∧ ¬ inF 5 nd P Q (cF40 cx q 0).toInt (cF40 cy q 0).toInt))))) (fun t => va_P (dC, dI) classes ([(oc3 lw (.ref dr) (.ref tg) (.ref wy) (.ref br) (.ref bo) (.ref aa)), (oc6 dr (.ref dx) (.ref dy) (nI nd) rd), (oa dx cI cd P), (oa dy cI cd Q), (oc7 sh (.ref fa) (nI ft)), (oq fa cF 200 FA), (oc1 fe rk9 wd9 tw9 pa9 pb9 (.ref lo) (.ref lk) fm9), (oc4 lk kd9 st9 (.ref r) gb9 jt9 we9), (oc1 fe3 rk3 wd3 tw3 pa3 pb3 (.ref lo3) (.ref lk3) fm3), (oc4 lk3 kd3 st3 (.ref r3) gb3 jt3 we3)] ++ va_pl L f) t.heap ∧ va_D A ([(oc3 lw (.ref dr) (.ref tg) (.ref wy) (.ref br) (.ref bo) (.ref aa)), (oc6 dr (.ref dx) (.ref dy) (nI nd) rd), (oa dx cI cd P), (oa dy cI cd Q), (oc7 sh (.ref fa) (nI ft)), (oq fa cF 200 FA), (oc1 fe rk9 wd9 tw9 pa9 pb9 (.ref lo) (.ref lk) fm9), (oc4 lk kd9 st9 (.ref r) gb9 jt9 we9), (oc1 fe3 rk3 wd3 tw3 pa3 pb3 (.ref lo3) (.ref lk3) fm3), (oc4 lk3 kd3 st3 (.ref r3) gb3 jt3 we3)] ++ va_pl L f)) A) ([.ref lw, .ref sh, .ref fe, .ref fe3] : List Value).toArray s 0 0 A := ⟨_, rfl⟩
  rw [← hQ9]
  have hl := lv_entry ([.ref lw, .ref sh, .ref fe, .ref fe3]) (n := 6) (Nat.le_of_ble_eq_true rfl)
  rw [lg_entry_eq]
  generalize (lg_sl ([.ref lw, .ref sh, .ref fe, .ref fe3]) ++ List.replicate (6 - (lg_sl ([.ref lw, .ref sh, .ref fe, .ref fe3])).length) Slot.unset).toArray = ls at hl ⊢
  have hl : lv_has ls 6 [(0, .ref lw), (1, .ref sh), (2, .ref fe), (3, .ref fe3)] := hl
  refine lv_iconst (v := 0) hx hb dX4_isFreeFor_0 rfl ?_
  refine lv_istore (lv' := [(4, .int 0), (0, .ref lw), (1, .ref sh), (2, .ref fe), (3, .ref fe3)]) hx hb dX4_isFreeFor_1 hl (Nat.le_of_ble_eq_true rfl) rfl (fun ls hl => ?_)
  have hl_3 : ∀ (n9 : Nat) (g5 : Nat) (H : Heap) (locs : List Loc) (ls : Array Slot), ft - g5 < n9 → (g5 ≤ ft) → (∀ q, q < g5 → (q ≠ f0 → q ≠ g0 → lvF ft st tn q → ¬ tch nd P Q rd (nN (mn q)) (cF40 cx q) (cF40 cy q) (rgK (kd q).toInt) ∧ ¬ inF 5 nd P Q (cF40 cx q 0).toInt (cF40 cy q 0).toInt)) → va_P (dC, dI) classes ([(oc3 lw (.ref dr) (.ref tg) (.ref wy) (.ref br) (.ref bo) (.ref aa)), (oc6 dr (.ref dx) (.ref dy) (nI nd) rd), (oa dx cI cd P), (oa dy cI cd Q), (oc7 sh (.ref fa) (nI ft)), (oq fa cF 200 FA), (oc1 fe rk9 wd9 tw9 pa9 pb9 (.ref lo) (.ref lk) fm9), (oc4 lk kd9 st9 (.ref r) gb9 jt9 we9), (oc1 fe3 rk3 wd3 tw3 pa3 pb3 (.ref lo3) (.ref lk3) fm3), (oc4 lk3 kd3 st3 (.ref r3) gb3 jt3 we3)] ++ va_pl L f) H → va_D A ([(oc3 lw (.ref dr) (.ref tg) (.ref wy) (.ref br) (.ref bo) (.ref aa)), (oc6 dr (.ref dx) (.ref dy) (nI nd) rd), (oa dx cI cd P), (oa dy cI cd Q), (oc7 sh (.ref fa) (nI ft)), (oq fa cF 200 FA), (oc1 fe rk9 wd9 tw9 pa9 pb9 (.ref lo) (.ref lk) fm9), (oc4 lk kd9 st9 (.ref r) gb9 jt9 we9), (oc1 fe3 rk3 wd3 tw3 pa3 pb3 (.ref lo3) (.ref lk3) fm3), (oc4 lk3 kd3 st3 (.ref r3) gb3 jt3 we3)] ++ va_pl L f) → va_S A s.heap H locs → lv_has ls 6 [(4, .int (nI g5)), (0, .ref lw), (1, .ref sh), (2, .ref fe), (3, .ref fe3)] → W p l e ((headSpec (.code yX4_isFreeFor cX4_isFreeFor 6 (some .boolean) :: ws0) ({ frames := 3, cells := 0, slots := 0, locals := 65 } : Room)).room) s m ([.ref lw, .ref sh, .ref fe, .ref fe3] : List Value).toArray below meth c H locs 0 0 Q9 (F0 m 3 ls []) := by
    intro n9
    induction n9 with
    | zero => intro g5 H locs ls hm; exact absurd hm (Nat.not_lt_zero _)
    | succ n9 ih_3 =>
      intro g5 H locs ls hm hi5 hall hP hD hS hl
      refine lv_iload hx hb dX4_isFreeFor_3 (lv_at hl 0 rfl) ?_
      refine lv_aload_n hx hb dX4_isFreeFor_5 rfl (lv_at hl 2 rfl) ?_
      refine va_get (D := (dC, dI)) (ci := 7) (v := .int (nI ft)) (C := RX8) (T := TX8) (N := 2) hx hb hts inX8 hown hK hP 4 rfl rfl 1 (Nat.le_of_ble_eq_true rfl) (hts _ mw_139) (fun _ h9 => h9) rfl dX4_isFreeFor_6 ?_
      have b9_2 : g5 < 2147483648 := by omega
      have b9_3 : ft < 2147483648 := by omega
      refine lv_icmp_ge (tgt := 80) hx hb dX4_isFreeFor_9 rfl (fun c_1 => ?_) (fun c_1 => ?_)
      · have c_1 : ((ft : Nat) : Int) ≤ ((g5 : Nat) : Int) := zc_le (nI_toInt b9_3) (nI_toInt b9_2) c_1
        refine lv_iconst (v := 1) hx hb dX4_isFreeFor_80 rfl ?_
        obtain ⟨hP9, hD9⟩ := zq_part (cx := [(oc3 lw (.ref dr) (.ref tg) (.ref wy) (.ref br) (.ref bo) (.ref aa)), (oc6 dr (.ref dx) (.ref dy) (nI nd) rd), (oa dx cI cd P), (oa dy cI cd Q), (oc7 sh (.ref fa) (nI ft)), (oq fa cF 200 FA), (oc1 fe rk9 wd9 tw9 pa9 pb9 (.ref lo) (.ref lk) fm9), (oc4 lk kd9 st9 (.ref r) gb9 jt9 we9), (oc1 fe3 rk3 wd3 tw3 pa3 pb3 (.ref lo3) (.ref lk3) fm3), (oc4 lk3 kd3 st3 (.ref r3) gb3 jt3 we3)]) hP hD [0, 1, 2, 3, 4, 5, 6, 7, 8, 9] rfl rfl
        rw [hQ9]
        exact W.zret (ty := .boolean) (v := 1) hx hb hr (rfl) (fun t ht hW => ⟨⟨congrArg (fun z => Outcome.returned (some (Value.int z))) (show (1 : Int32) = pI (∀ q, q < ft → (q ≠ f0 → q ≠ g0 → lvF ft st tn q → ¬ tch nd P Q rd (nN (mn q)) (cF40 cx q) (cF40 cy q) (rgK (kd q).toInt) ∧ ¬ inF 5 nd P Q (cF40 cx q 0).toInt (cF40 cy q 0).toInt)) from (zp_t (fun q hq => hall q (by omega))).symm), by rw [ht]; exact hP9, hD9⟩, hS.F ht⟩) hS.2.2 dX4_isFreeFor_81
      · have c_1 : ((g5 : Nat) : Int) < ((ft : Nat) : Int) := zc_nle (nI_toInt b9_3) (nI_toInt b9_2) c_1
        rcases vw5 (hvw g5) (show g5 < ft by omega) with hif | ⟨hif, hig⟩ | ⟨hif, hs2, fe2, lk2, lo2, rk2, wd2, tw2, pa2, pb2, gb2, jt2, we2, fm2, rw2, hFA2, hfe2, hlk2⟩ | ⟨hif, ht2, fe2, lk2, lo2, rk2, wd2, tw2, pa2, pb2, gb2, jt2, we2, fm2, hFA2, hfe2, hlk2⟩ | ⟨hif, hlv2, fe2, lk2, lo2, rk2, wd2, tw2, pa2, pb2, gb2, jt2, we2, fm2, r2, rx2, ry2, cap2, U2, V2, rg2, hFA2, hfe2, hlk2, ⟨hr2, hrx2, hry2, hne2⟩, hrr2⟩
        · skip
          have hFi : FA g5 = some fe := (by rw [hif]; exact hFA)
          refine lv_aload_n hx hb dX4_isFreeFor_12 rfl (lv_at hl 2 rfl) ?_
          refine lv_iload hx hb dX4_isFreeFor_13 (lv_at hl 0 rfl) ?_
          obtain ⟨hPc, hDc, hFc⟩ := zc_sub (wc := [(oc7 sh (.ref fa) (nI ft)), (oq fa cF 200 FA), (oc1 fe rk9 wd9 tw9 pa9 pb9 (.ref lo) (.ref lk) fm9), (oc4 lk kd9 st9 (.ref r) gb9 jt9 we9)]) hP hD hS hA [4, 5, 6, 7] rfl rfl
          refine zcall (st1 := [.ref r]) (va_runV (As := [.int (nI g5)]) (rest := []) ⟨hx, hb, hml, hown, hts⟩ (k_Sheet_rowThere_yv l dC dI cI cZ cF H.size sh fa ft FA g5 fe lo rk9 wd9 tw9 pa9 pb9 lk kd9 st9 gb9 jt9 we9 r fm9 (by first | with_reducible assumption | omega) (by first | with_reducible assumption | omega) (by first | exact hFi | exact hFA2) (by first | exact hs1 | exact hs2 | exact hlv2.2.1 | exact hs3)) (csV_62 hts rfl rfl ⟨Nat.le_of_ble_eq_true rfl, Nat.le_of_ble_eq_true rfl⟩) (zPV2 (q0 := 0) (ci := 7) hPc hDc hK hXN rfl rfl) rfl rfl hl.1 rfl (lv_room (Nat.le_of_ble_eq_true rfl)) dX4_isFreeFor_15 ⟨Nat.le_of_ble_eq_true rfl, Nat.le_of_ble_eq_true rfl⟩) hS hFc hFc rfl (fun t H locs ht hB hk1 hS => ?_)
          obtain ⟨hP1, hD1⟩ := hB
          rw [ht] at hP1
          obtain ⟨hP, hD⟩ := zkQ (W2 := [(oc3 lw (.ref dr) (.ref tg) (.ref wy) (.ref br) (.ref bo) (.ref aa)), (oc6 dr (.ref dx) (.ref dy) (nI nd) rd), (oa dx cI cd P), (oa dy cI cd Q), (oc7 sh (.ref fa) (nI ft)), (oq fa cF 200 FA), (oc1 fe rk9 wd9 tw9 pa9 pb9 (.ref lo) (.ref lk) fm9), (oc4 lk kd9 st9 (.ref r) gb9 jt9 we9), (oc1 fe3 rk3 wd3 tw3 pa3 pb3 (.ref lo3) (.ref lk3) fm3), (oc4 lk3 kd3 st3 (.ref r3) gb3 jt3 we3)]) hP hD [4, 5, 6, 7] [0, 1, 2, 3, 8, 9] [0, 1, 2, 3, 8, 9] [4, 5, 6, 7] [0, 1, 2, 3, 6, 7, 8, 9, 4, 5] 10 rfl rfl rfl rfl rfl rfl rfl rfl rfl hk1 hFc hP1 hD1
          clear hk1 hPc hDc hFc hP1 hD1 ht
          refine lv_astore (lv' := [(5, .ref r), (4, .int (nI g5)), (0, .ref lw), (1, .ref sh), (2, .ref fe), (3, .ref fe3)]) hx hb dX4_isFreeFor_18 hl (Nat.le_of_ble_eq_true rfl) rfl (fun ls hl => ?_)
          refine lv_aload hx hb dX4_isFreeFor_20 (lv_at hl 0 rfl) ?_
          refine lv_ifnull hx hb dX4_isFreeFor_22 ?_
          refine lv_aload_n hx hb dX4_isFreeFor_25 rfl (lv_at hl 3 rfl) ?_
          refine lv_iload hx hb dX4_isFreeFor_26 (lv_at hl 1 rfl) ?_
          obtain ⟨hPc, hDc, hFc⟩ := zc_sub (wc := [(oc7 sh (.ref fa) (nI ft)), (oq fa cF 200 FA)]) hP hD hS hA [4, 5] rfl rfl
          refine zcall (st1 := [.ref fe]) (va_runV (As := [.int (nI g5)]) (rest := []) ⟨hx, hb, hml, hown, hts⟩ (k_Sheet_find l dC dI cI cZ cF H.size sh fa ft FA g5 fe (by first | with_reducible assumption | omega) (by first | with_reducible assumption | omega) (by first | exact hFi | exact hFA2)) (csV_63 hts rfl rfl ⟨Nat.le_of_ble_eq_true rfl, Nat.le_of_ble_eq_true rfl⟩) (zPV2 (q0 := 0) (ci := 7) hPc hDc hK hXN rfl rfl) rfl rfl hl.1 rfl (lv_room (Nat.le_of_ble_eq_true rfl)) dX4_isFreeFor_28 ⟨Nat.le_of_ble_eq_true rfl, Nat.le_of_ble_eq_true rfl⟩) hS hFc hFc rfl (fun t H locs ht hB hk1 hS => ?_)
          obtain ⟨hP1, hD1⟩ := hB
          rw [ht] at hP1
          obtain ⟨hP, hD⟩ := zkQ (W2 := [(oc3 lw (.ref dr) (.ref tg) (.ref wy) (.ref br) (.ref bo) (.ref aa)), (oc6 dr (.ref dx) (.ref dy) (nI nd) rd), (oa dx cI cd P), (oa dy cI cd Q), (oc7 sh (.ref fa) (nI ft)), (oq fa cF 200 FA), (oc1 fe rk9 wd9 tw9 pa9 pb9 (.ref lo) (.ref lk) fm9), (oc4 lk kd9 st9 (.ref r) gb9 jt9 we9), (oc1 fe3 rk3 wd3 tw3 pa3 pb3 (.ref lo3) (.ref lk3) fm3), (oc4 lk3 kd3 st3 (.ref r3) gb3 jt3 we3)]) hP hD [4, 5] [0, 1, 2, 3, 6, 7, 8, 9] [0, 1, 2, 3, 6, 7, 8, 9] [4, 5] [0, 1, 2, 3, 8, 9, 4, 5, 6, 7] 10 rfl rfl rfl rfl rfl rfl rfl rfl rfl hk1 hFc hP1 hD1
          clear hk1 hPc hDc hFc hP1 hD1 ht
          refine lv_aload_n hx hb dX4_isFreeFor_31 rfl (lv_at hl 4 rfl) ?_
          refine z_acmpeq (rx := fe) (ry := fe) (tgt := 74) hx hb dX4_isFreeFor_32 (by decide) (fun c_4 => ?_) (fun c_4 => ?_)
          · have c_4 : fe = fe := c_4
            refine lv_iinc (v := nI (g5 + 1)) (lv' := [(4, .int (nI (g5 + 1))), (5, .ref r), (0, .ref lw), (1, .ref sh), (2, .ref fe), (3, .ref fe3)]) hx hb dX4_isFreeFor_74 hl (k := 1) rfl (nI_add g5 1) (Nat.le_of_ble_eq_true rfl) rfl (fun ls hl => ?_)
            refine lv_goto (tgt := 3) hx hb dX4_isFreeFor_77 rfl ?_
            exact ih_3 (g5 + 1) H locs ls (by first | with_reducible assumption | omega) (by first | with_reducible assumption | omega) (by intro q hq; rcases Nat.lt_or_ge q g5 with h | h; exact hall q h; rw [show q = g5 by omega]; intro h1 h3 h2; first | exact absurd hif h1 | exact absurd hig h3 | exact absurd h2.2.1 hs2 | exact absurd h2.2.2 ht2 | exact ⟨by assumption, by assumption⟩) hP hD hS (lv_sub hl [0, 2, 3, 4, 5] rfl)
          · have c_4 : ¬ fe = fe := c_4
            exact absurd rfl c_4
        · skip
          have hFi : FA g5 = some fe3 := (by rw [hig]; exact hFA3)
          refine lv_aload_n hx hb dX4_isFreeFor_12 rfl (lv_at hl 2 rfl) ?_
          refine lv_iload hx hb dX4_isFreeFor_13 (lv_at hl 0 rfl) ?_
          obtain ⟨hPc, hDc, hFc⟩ := zc_sub (wc := [(oc7 sh (.ref fa) (nI ft)), (oq fa cF 200 FA), (oc1 fe3 rk3 wd3 tw3 pa3 pb3 (.ref lo3) (.ref lk3) fm3), (oc4 lk3 kd3 st3 (.ref r3) gb3 jt3 we3)]) hP hD hS hA [4, 5, 8, 9] rfl rfl
          refine zcall (st1 := [.ref r3]) (va_runV (As := [.int (nI g5)]) (rest := []) ⟨hx, hb, hml, hown, hts⟩ (k_Sheet_rowThere_yv l dC dI cI cZ cF H.size sh fa ft FA g5 fe3 lo3 rk3 wd3 tw3 pa3 pb3 lk3 kd3 st3 gb3 jt3 we3 r3 fm3 (by first | with_reducible assumption | omega) (by first | with_reducible assumption | omega) (by first | exact hFi | exact hFA2) (by first | exact hs1 | exact hs2 | exact hlv2.2.1 | exact hs3)) (csV_62 hts rfl rfl ⟨Nat.le_of_ble_eq_true rfl, Nat.le_of_ble_eq_true rfl⟩) (zPV2 (q0 := 0) (ci := 7) hPc hDc hK hXN rfl rfl) rfl rfl hl.1 rfl (lv_room (Nat.le_of_ble_eq_true rfl)) dX4_isFreeFor_15 ⟨Nat.le_of_ble_eq_true rfl, Nat.le_of_ble_eq_true rfl⟩) hS hFc hFc rfl (fun t H locs ht hB hk1 hS => ?_)
          obtain ⟨hP1, hD1⟩ := hB
          rw [ht] at hP1
          obtain ⟨hP, hD⟩ := zkQ (W2 := [(oc3 lw (.ref dr) (.ref tg) (.ref wy) (.ref br) (.ref bo) (.ref aa)), (oc6 dr (.ref dx) (.ref dy) (nI nd) rd), (oa dx cI cd P), (oa dy cI cd Q), (oc7 sh (.ref fa) (nI ft)), (oq fa cF 200 FA), (oc1 fe rk9 wd9 tw9 pa9 pb9 (.ref lo) (.ref lk) fm9), (oc4 lk kd9 st9 (.ref r) gb9 jt9 we9), (oc1 fe3 rk3 wd3 tw3 pa3 pb3 (.ref lo3) (.ref lk3) fm3), (oc4 lk3 kd3 st3 (.ref r3) gb3 jt3 we3)]) hP hD [4, 5, 8, 9] [0, 1, 2, 3, 6, 7] [0, 1, 2, 3, 6, 7] [4, 5, 8, 9] [0, 1, 2, 3, 6, 7, 4, 5, 8, 9] 10 rfl rfl rfl rfl rfl rfl rfl rfl rfl hk1 hFc hP1 hD1
          clear hk1 hPc hDc hFc hP1 hD1 ht
          refine lv_astore (lv' := [(5, .ref r3), (4, .int (nI g5)), (0, .ref lw), (1, .ref sh), (2, .ref fe), (3, .ref fe3)]) hx hb dX4_isFreeFor_18 hl (Nat.le_of_ble_eq_true rfl) rfl (fun ls hl => ?_)
          refine lv_aload hx hb dX4_isFreeFor_20 (lv_at hl 0 rfl) ?_
          refine lv_ifnull hx hb dX4_isFreeFor_22 ?_
          refine lv_aload_n hx hb dX4_isFreeFor_25 rfl (lv_at hl 3 rfl) ?_
          refine lv_iload hx hb dX4_isFreeFor_26 (lv_at hl 1 rfl) ?_
          obtain ⟨hPc, hDc, hFc⟩ := zc_sub (wc := [(oc7 sh (.ref fa) (nI ft)), (oq fa cF 200 FA)]) hP hD hS hA [4, 5] rfl rfl
          refine zcall (st1 := [.ref fe3]) (va_runV (As := [.int (nI g5)]) (rest := []) ⟨hx, hb, hml, hown, hts⟩ (k_Sheet_find l dC dI cI cZ cF H.size sh fa ft FA g5 fe3 (by first | with_reducible assumption | omega) (by first | with_reducible assumption | omega) (by first | exact hFi | exact hFA2)) (csV_63 hts rfl rfl ⟨Nat.le_of_ble_eq_true rfl, Nat.le_of_ble_eq_true rfl⟩) (zPV2 (q0 := 0) (ci := 7) hPc hDc hK hXN rfl rfl) rfl rfl hl.1 rfl (lv_room (Nat.le_of_ble_eq_true rfl)) dX4_isFreeFor_28 ⟨Nat.le_of_ble_eq_true rfl, Nat.le_of_ble_eq_true rfl⟩) hS hFc hFc rfl (fun t H locs ht hB hk1 hS => ?_)
          obtain ⟨hP1, hD1⟩ := hB
          rw [ht] at hP1
          obtain ⟨hP, hD⟩ := zkQ (W2 := [(oc3 lw (.ref dr) (.ref tg) (.ref wy) (.ref br) (.ref bo) (.ref aa)), (oc6 dr (.ref dx) (.ref dy) (nI nd) rd), (oa dx cI cd P), (oa dy cI cd Q), (oc7 sh (.ref fa) (nI ft)), (oq fa cF 200 FA), (oc1 fe rk9 wd9 tw9 pa9 pb9 (.ref lo) (.ref lk) fm9), (oc4 lk kd9 st9 (.ref r) gb9 jt9 we9), (oc1 fe3 rk3 wd3 tw3 pa3 pb3 (.ref lo3) (.ref lk3) fm3), (oc4 lk3 kd3 st3 (.ref r3) gb3 jt3 we3)]) hP hD [4, 5] [0, 1, 2, 3, 6, 7, 8, 9] [0, 1, 2, 3, 6, 7, 8, 9] [4, 5] [0, 1, 2, 3, 8, 9, 4, 5, 6, 7] 10 rfl rfl rfl rfl rfl rfl rfl rfl rfl hk1 hFc hP1 hD1
          clear hk1 hPc hDc hFc hP1 hD1 ht
          refine lv_aload_n hx hb dX4_isFreeFor_31 rfl (lv_at hl 4 rfl) ?_
          refine z_acmpeq (rx := fe3) (ry := fe) (tgt := 74) hx hb dX4_isFreeFor_32 (by decide) (fun c_5 => ?_) (fun c_5 => ?_)
          · have c_5 : fe3 = fe := c_5
            refine lv_iinc (v := nI (g5 + 1)) (lv' := [(4, .int (nI (g5 + 1))), (5, .ref r3), (0, .ref lw), (1, .ref sh), (2, .ref fe), (3, .ref fe3)]) hx hb dX4_isFreeFor_74 hl (k := 1) rfl (nI_add g5 1) (Nat.le_of_ble_eq_true rfl) rfl (fun ls hl => ?_)
            refine lv_goto (tgt := 3) hx hb dX4_isFreeFor_77 rfl ?_
            exact ih_3 (g5 + 1) H locs ls (by first | with_reducible assumption | omega) (by first | with_reducible assumption | omega) (by intro q hq; rcases Nat.lt_or_ge q g5 with h | h; exact hall q h; rw [show q = g5 by omega]; intro h1 h3 h2; first | exact absurd hif h1 | exact absurd hig h3 | exact absurd h2.2.1 hs2 | exact absurd h2.2.2 ht2 | exact ⟨by assumption, by assumption⟩) hP hD hS (lv_sub hl [0, 2, 3, 4, 5] rfl)
          · have c_5 : ¬ fe3 = fe := c_5
            refine lv_aload_n hx hb dX4_isFreeFor_35 rfl (lv_at hl 3 rfl) ?_
            refine lv_iload hx hb dX4_isFreeFor_36 (lv_at hl 1 rfl) ?_
            obtain ⟨hPc, hDc, hFc⟩ := zc_sub (wc := [(oc7 sh (.ref fa) (nI ft)), (oq fa cF 200 FA)]) hP hD hS hA [4, 5] rfl rfl
            refine zcall (st1 := [.ref fe3]) (va_runV (As := [.int (nI g5)]) (rest := []) ⟨hx, hb, hml, hown, hts⟩ (k_Sheet_find l dC dI cI cZ cF H.size sh fa ft FA g5 fe3 (by first | with_reducible assumption | omega) (by first | with_reducible assumption | omega) (by first | exact hFi | exact hFA2)) (csV_63 hts rfl rfl ⟨Nat.le_of_ble_eq_true rfl, Nat.le_of_ble_eq_true rfl⟩) (zPV2 (q0 := 0) (ci := 7) hPc hDc hK hXN rfl rfl) rfl rfl hl.1 rfl (lv_room (Nat.le_of_ble_eq_true rfl)) dX4_isFreeFor_38 ⟨Nat.le_of_ble_eq_true rfl, Nat.le_of_ble_eq_true rfl⟩) hS hFc hFc rfl (fun t H locs ht hB hk1 hS => ?_)
            obtain ⟨hP1, hD1⟩ := hB
            rw [ht] at hP1
            obtain ⟨hP, hD⟩ := zkQ (W2 := [(oc3 lw (.ref dr) (.ref tg) (.ref wy) (.ref br) (.ref bo) (.ref aa)), (oc6 dr (.ref dx) (.ref dy) (nI nd) rd), (oa dx cI cd P), (oa dy cI cd Q), (oc7 sh (.ref fa) (nI ft)), (oq fa cF 200 FA), (oc1 fe rk9 wd9 tw9 pa9 pb9 (.ref lo) (.ref lk) fm9), (oc4 lk kd9 st9 (.ref r) gb9 jt9 we9), (oc1 fe3 rk3 wd3 tw3 pa3 pb3 (.ref lo3) (.ref lk3) fm3), (oc4 lk3 kd3 st3 (.ref r3) gb3 jt3 we3)]) hP hD [4, 5] [0, 1, 2, 3, 6, 7, 8, 9] [0, 1, 2, 3, 6, 7, 8, 9] [4, 5] [0, 1, 2, 3, 8, 9, 4, 5, 6, 7] 10 rfl rfl rfl rfl rfl rfl rfl rfl rfl hk1 hFc hP1 hD1
            clear hk1 hPc hDc hFc hP1 hD1 ht
            refine lv_aload_n hx hb dX4_isFreeFor_41 rfl (lv_at hl 5 rfl) ?_
            refine z_acmpne (rx := fe3) (ry := fe3) (tgt := 48) hx hb dX4_isFreeFor_42 (by decide) (fun c_6 => ?_) (fun c_6 => ?_)
            · have c_6 : ¬ fe3 = fe3 := c_6
              exact absurd rfl c_6
            · have c_6 : fe3 = fe3 := c_6
              refine lv_goto (tgt := 74) hx hb dX4_isFreeFor_45 rfl ?_
              refine lv_iinc (v := nI (g5 + 1)) (lv' := [(4, .int (nI (g5 + 1))), (5, .ref r3), (0, .ref lw), (1, .ref sh), (2, .ref fe), (3, .ref fe3)]) hx hb dX4_isFreeFor_74 hl (k := 1) rfl (nI_add g5 1) (Nat.le_of_ble_eq_true rfl) rfl (fun ls hl => ?_)
              refine lv_goto (tgt := 3) hx hb dX4_isFreeFor_77 rfl ?_
              exact ih_3 (g5 + 1) H locs ls (by first | with_reducible assumption | omega) (by first | with_reducible assumption | omega) (by intro q hq; rcases Nat.lt_or_ge q g5 with h | h; exact hall q h; rw [show q = g5 by omega]; intro h1 h3 h2; first | exact absurd hif h1 | exact absurd hig h3 | exact absurd h2.2.1 hs2 | exact absurd h2.2.2 ht2 | exact ⟨by assumption, by assumption⟩) hP hD hS (lv_sub hl [0, 2, 3, 4, 5] rfl)
        · skip
          have hc9_1 : inPl L f [(oc1 fe2 rk2 wd2 tw2 pa2 pb2 (.ref lo2) (.ref lk2) fm2), (oc4 lk2 (kd g5) (st g5) rw2 gb2 jt2 we2)] := ⟨hfe2, hlk2, trivial⟩
          have hD0_1 := hD
          obtain ⟨hP, hD⟩ := pl_out hP hD [(oc1 fe2 rk2 wd2 tw2 pa2 pb2 (.ref lo2) (.ref lk2) fm2), (oc4 lk2 (kd g5) (st g5) rw2 gb2 jt2 we2)] hc9_1 (pwF hfe2.2 hlk2.2)
          generalize hT_1 : outPl L [(oc1 fe2 rk2 wd2 tw2 pa2 pb2 (.ref lo2) (.ref lk2) fm2), (oc4 lk2 (kd g5) (st g5) rw2 gb2 jt2 we2)] = T_1 at hP hD
          obtain ⟨hP, hD⟩ : zPD (dC, dI) classes A ([(oc3 lw (.ref dr) (.ref tg) (.ref wy) (.ref br) (.ref bo) (.ref aa)), (oc6 dr (.ref dx) (.ref dy) (nI nd) rd), (oa dx cI cd P), (oa dy cI cd Q), (oc7 sh (.ref fa) (nI ft)), (oq fa cF 200 FA), (oc1 fe rk9 wd9 tw9 pa9 pb9 (.ref lo) (.ref lk) fm9), (oc4 lk kd9 st9 (.ref r) gb9 jt9 we9), (oc1 fe3 rk3 wd3 tw3 pa3 pb3 (.ref lo3) (.ref lk3) fm3), (oc4 lk3 kd3 st3 (.ref r3) gb3 jt3 we3), (oc1 fe2 rk2 wd2 tw2 pa2 pb2 (.ref lo2) (.ref lk2) fm2), (oc4 lk2 (kd g5) (st g5) rw2 gb2 jt2 we2)] ++ va_pl T_1 f) H := ⟨hP, hD⟩
          refine lv_aload_n hx hb dX4_isFreeFor_12 rfl (lv_at hl 2 rfl) ?_
          refine lv_iload hx hb dX4_isFreeFor_13 (lv_at hl 0 rfl) ?_
          obtain ⟨hPc, hDc, hFc⟩ := zc_sub (wc := [(oc7 sh (.ref fa) (nI ft)), (oq fa cF 200 FA), (oc1 fe2 rk2 wd2 tw2 pa2 pb2 (.ref lo2) (.ref lk2) fm2), (oc4 lk2 (kd g5) (st g5) rw2 gb2 jt2 we2)]) hP hD hS hA [4, 5, 10, 11] rfl rfl
          refine zcall (st1 := [.null]) (va_runV (As := [.int (nI g5)]) (rest := []) ⟨hx, hb, hml, hown, hts⟩ (k_Sheet_rowThere_sv l dC dI cI cZ cF H.size sh fa ft FA g5 fe2 lo2 rk2 wd2 tw2 pa2 pb2 lk2 (kd g5) (st g5) gb2 jt2 we2 fm2 rw2 (by first | with_reducible assumption | omega) (by first | with_reducible assumption | omega) (by first | exact hFi | exact hFA2) (by first | exact hs1 | exact hs2 | exact hlv2.2.1 | exact hs3)) (csV_62 hts rfl rfl ⟨Nat.le_of_ble_eq_true rfl, Nat.le_of_ble_eq_true rfl⟩) (zPV2 (q0 := 0) (ci := 7) hPc hDc hK hXN rfl rfl) rfl rfl hl.1 rfl (lv_room (Nat.le_of_ble_eq_true rfl)) dX4_isFreeFor_15 ⟨Nat.le_of_ble_eq_true rfl, Nat.le_of_ble_eq_true rfl⟩) hS hFc hFc rfl (fun t H locs ht hB hk1 hS => ?_)
          obtain ⟨hP1, hD1⟩ := hB
          rw [ht] at hP1
          obtain ⟨hP, hD⟩ := zkQ (W2 := [(oc3 lw (.ref dr) (.ref tg) (.ref wy) (.ref br) (.ref bo) (.ref aa)), (oc6 dr (.ref dx) (.ref dy) (nI nd) rd), (oa dx cI cd P), (oa dy cI cd Q), (oc7 sh (.ref fa) (nI ft)), (oq fa cF 200 FA), (oc1 fe rk9 wd9 tw9 pa9 pb9 (.ref lo) (.ref lk) fm9), (oc4 lk kd9 st9 (.ref r) gb9 jt9 we9), (oc1 fe3 rk3 wd3 tw3 pa3 pb3 (.ref lo3) (.ref lk3) fm3), (oc4 lk3 kd3 st3 (.ref r3) gb3 jt3 we3), (oc1 fe2 rk2 wd2 tw2 pa2 pb2 (.ref lo2) (.ref lk2) fm2), (oc4 lk2 (kd g5) (st g5) rw2 gb2 jt2 we2)]) hP hD [4, 5, 10, 11] [0, 1, 2, 3, 6, 7, 8, 9] [0, 1, 2, 3, 6, 7, 8, 9] [4, 5, 10, 11] [0, 1, 2, 3, 8, 9, 4, 5, 6, 7, 10, 11] 12 rfl rfl rfl rfl rfl rfl rfl rfl rfl hk1 hFc hP1 hD1
          clear hk1 hPc hDc hFc hP1 hD1 ht
          refine lv_astoreN (lv' := [(5, .null), (4, .int (nI g5)), (0, .ref lw), (1, .ref sh), (2, .ref fe), (3, .ref fe3)]) hx hb dX4_isFreeFor_18 hl (Nat.le_of_ble_eq_true rfl) rfl (fun ls hl => ?_)
          refine lv_aloadN hx hb dX4_isFreeFor_20 (lv_at hl 0 rfl) ?_
          refine lv_ifnullN (tgt := 74) hx hb dX4_isFreeFor_22 rfl ?_
          have hP := pl_back (cs := [(oc1 fe2 rk2 wd2 tw2 pa2 pb2 (.ref lo2) (.ref lk2) fm2), (oc4 lk2 (kd g5) (st g5) rw2 gb2 jt2 we2)]) (L := L) (f := f) (X := [(oc3 lw (.ref dr) (.ref tg) (.ref wy) (.ref br) (.ref bo) (.ref aa)), (oc6 dr (.ref dx) (.ref dy) (nI nd) rd), (oa dx cI cd P), (oa dy cI cd Q), (oc7 sh (.ref fa) (nI ft)), (oq fa cF 200 FA), (oc1 fe rk9 wd9 tw9 pa9 pb9 (.ref lo) (.ref lk) fm9), (oc4 lk kd9 st9 (.ref r) gb9 jt9 we9), (oc1 fe3 rk3 wd3 tw3 pa3 pb3 (.ref lo3) (.ref lk3) fm3), (oc4 lk3 kd3 st3 (.ref r3) gb3 jt3 we3)]) (by rw [hT_1]; exact (show va_P (dC, dI) classes (([(oc3 lw (.ref dr) (.ref tg) (.ref wy) (.ref br) (.ref bo) (.ref aa)), (oc6 dr (.ref dx) (.ref dy) (nI nd) rd), (oa dx cI cd P), (oa dy cI cd Q), (oc7 sh (.ref fa) (nI ft)), (oq fa cF 200 FA), (oc1 fe rk9 wd9 tw9 pa9 pb9 (.ref lo) (.ref lk) fm9), (oc4 lk kd9 st9 (.ref r) gb9 jt9 we9), (oc1 fe3 rk3 wd3 tw3 pa3 pb3 (.ref lo3) (.ref lk3) fm3), (oc4 lk3 kd3 st3 (.ref r3) gb3 jt3 we3)] ++ [(oc1 fe2 rk2 wd2 tw2 pa2 pb2 (.ref lo2) (.ref lk2) fm2), (oc4 lk2 (kd g5) (st g5) rw2 gb2 jt2 we2)]) ++ va_pl T_1 f) H from hP)) hc9_1
          have hD : va_D A ([(oc3 lw (.ref dr) (.ref tg) (.ref wy) (.ref br) (.ref bo) (.ref aa)), (oc6 dr (.ref dx) (.ref dy) (nI nd) rd), (oa dx cI cd P), (oa dy cI cd Q), (oc7 sh (.ref fa) (nI ft)), (oq fa cF 200 FA), (oc1 fe rk9 wd9 tw9 pa9 pb9 (.ref lo) (.ref lk) fm9), (oc4 lk kd9 st9 (.ref r) gb9 jt9 we9), (oc1 fe3 rk3 wd3 tw3 pa3 pb3 (.ref lo3) (.ref lk3) fm3), (oc4 lk3 kd3 st3 (.ref r3) gb3 jt3 we3)] ++ va_pl L f) := vaD_ae hD0_1 rfl
          refine lv_iinc (v := nI (g5 + 1)) (lv' := [(4, .int (nI (g5 + 1))), (5, .null), (0, .ref lw), (1, .ref sh), (2, .ref fe), (3, .ref fe3)]) hx hb dX4_isFreeFor_74 hl (k := 1) rfl (nI_add g5 1) (Nat.le_of_ble_eq_true rfl) rfl (fun ls hl => ?_)
          refine lv_goto (tgt := 3) hx hb dX4_isFreeFor_77 rfl ?_
          exact ih_3 (g5 + 1) H locs ls (by first | with_reducible assumption | omega) (by first | with_reducible assumption | omega) (by intro q hq; rcases Nat.lt_or_ge q g5 with h | h; exact hall q h; rw [show q = g5 by omega]; intro h1 h3 h2; first | exact absurd hif h1 | exact absurd hig h3 | exact absurd h2.2.1 hs2 | exact absurd h2.2.2 ht2 | exact ⟨by assumption, by assumption⟩) hP hD hS (lv_sub hl [0, 2, 3, 4, 5] rfl)
        · skip
          have hc9_1 : inPl L f [(oc1 fe2 rk2 wd2 tw2 pa2 pb2 (.ref lo2) (.ref lk2) fm2), (oc4 lk2 (kd g5) (st g5) .null gb2 jt2 we2)] := ⟨hfe2, hlk2, trivial⟩
          have hD0_1 := hD
          obtain ⟨hP, hD⟩ := pl_out hP hD [(oc1 fe2 rk2 wd2 tw2 pa2 pb2 (.ref lo2) (.ref lk2) fm2), (oc4 lk2 (kd g5) (st g5) .null gb2 jt2 we2)] hc9_1 (pwF hfe2.2 hlk2.2)
          generalize hT_1 : outPl L [(oc1 fe2 rk2 wd2 tw2 pa2 pb2 (.ref lo2) (.ref lk2) fm2), (oc4 lk2 (kd g5) (st g5) .null gb2 jt2 we2)] = T_1 at hP hD
          obtain ⟨hP, hD⟩ : zPD (dC, dI) classes A ([(oc3 lw (.ref dr) (.ref tg) (.ref wy) (.ref br) (.ref bo) (.ref aa)), (oc6 dr (.ref dx) (.ref dy) (nI nd) rd), (oa dx cI cd P), (oa dy cI cd Q), (oc7 sh (.ref fa) (nI ft)), (oq fa cF 200 FA), (oc1 fe rk9 wd9 tw9 pa9 pb9 (.ref lo) (.ref lk) fm9), (oc4 lk kd9 st9 (.ref r) gb9 jt9 we9), (oc1 fe3 rk3 wd3 tw3 pa3 pb3 (.ref lo3) (.ref lk3) fm3), (oc4 lk3 kd3 st3 (.ref r3) gb3 jt3 we3), (oc1 fe2 rk2 wd2 tw2 pa2 pb2 (.ref lo2) (.ref lk2) fm2), (oc4 lk2 (kd g5) (st g5) .null gb2 jt2 we2)] ++ va_pl T_1 f) H := ⟨hP, hD⟩
          refine lv_aload_n hx hb dX4_isFreeFor_12 rfl (lv_at hl 2 rfl) ?_
          refine lv_iload hx hb dX4_isFreeFor_13 (lv_at hl 0 rfl) ?_
          obtain ⟨hPc, hDc, hFc⟩ := zc_sub (wc := [(oc7 sh (.ref fa) (nI ft)), (oq fa cF 200 FA), (oc1 fe2 rk2 wd2 tw2 pa2 pb2 (.ref lo2) (.ref lk2) fm2), (oc4 lk2 (kd g5) (st g5) .null gb2 jt2 we2)]) hP hD hS hA [4, 5, 10, 11] rfl rfl
          refine zcall (st1 := [.null]) (va_runV (As := [.int (nI g5)]) (rest := []) ⟨hx, hb, hml, hown, hts⟩ (k_Sheet_rowThere_tv l dC dI cI cZ cF H.size sh fa ft FA g5 fe2 lo2 rk2 wd2 tw2 pa2 pb2 lk2 (kd g5) (st g5) gb2 jt2 we2 fm2 (by first | with_reducible assumption | omega) (by first | with_reducible assumption | omega) (by first | exact hFi | exact hFA2)) (csV_62 hts rfl rfl ⟨Nat.le_of_ble_eq_true rfl, Nat.le_of_ble_eq_true rfl⟩) (zPV2 (q0 := 0) (ci := 7) hPc hDc hK hXN rfl rfl) rfl rfl hl.1 rfl (lv_room (Nat.le_of_ble_eq_true rfl)) dX4_isFreeFor_15 ⟨Nat.le_of_ble_eq_true rfl, Nat.le_of_ble_eq_true rfl⟩) hS hFc hFc rfl (fun t H locs ht hB hk1 hS => ?_)
          obtain ⟨hP1, hD1⟩ := hB
          rw [ht] at hP1
          obtain ⟨hP, hD⟩ := zkQ (W2 := [(oc3 lw (.ref dr) (.ref tg) (.ref wy) (.ref br) (.ref bo) (.ref aa)), (oc6 dr (.ref dx) (.ref dy) (nI nd) rd), (oa dx cI cd P), (oa dy cI cd Q), (oc7 sh (.ref fa) (nI ft)), (oq fa cF 200 FA), (oc1 fe rk9 wd9 tw9 pa9 pb9 (.ref lo) (.ref lk) fm9), (oc4 lk kd9 st9 (.ref r) gb9 jt9 we9), (oc1 fe3 rk3 wd3 tw3 pa3 pb3 (.ref lo3) (.ref lk3) fm3), (oc4 lk3 kd3 st3 (.ref r3) gb3 jt3 we3), (oc1 fe2 rk2 wd2 tw2 pa2 pb2 (.ref lo2) (.ref lk2) fm2), (oc4 lk2 (kd g5) (st g5) .null gb2 jt2 we2)]) hP hD [4, 5, 10, 11] [0, 1, 2, 3, 6, 7, 8, 9] [0, 1, 2, 3, 6, 7, 8, 9] [4, 5, 10, 11] [0, 1, 2, 3, 8, 9, 4, 5, 6, 7, 10, 11] 12 rfl rfl rfl rfl rfl rfl rfl rfl rfl hk1 hFc hP1 hD1
          clear hk1 hPc hDc hFc hP1 hD1 ht
          refine lv_astoreN (lv' := [(5, .null), (4, .int (nI g5)), (0, .ref lw), (1, .ref sh), (2, .ref fe), (3, .ref fe3)]) hx hb dX4_isFreeFor_18 hl (Nat.le_of_ble_eq_true rfl) rfl (fun ls hl => ?_)
          refine lv_aloadN hx hb dX4_isFreeFor_20 (lv_at hl 0 rfl) ?_
          refine lv_ifnullN (tgt := 74) hx hb dX4_isFreeFor_22 rfl ?_
          have hP := pl_back (cs := [(oc1 fe2 rk2 wd2 tw2 pa2 pb2 (.ref lo2) (.ref lk2) fm2), (oc4 lk2 (kd g5) (st g5) .null gb2 jt2 we2)]) (L := L) (f := f) (X := [(oc3 lw (.ref dr) (.ref tg) (.ref wy) (.ref br) (.ref bo) (.ref aa)), (oc6 dr (.ref dx) (.ref dy) (nI nd) rd), (oa dx cI cd P), (oa dy cI cd Q), (oc7 sh (.ref fa) (nI ft)), (oq fa cF 200 FA), (oc1 fe rk9 wd9 tw9 pa9 pb9 (.ref lo) (.ref lk) fm9), (oc4 lk kd9 st9 (.ref r) gb9 jt9 we9), (oc1 fe3 rk3 wd3 tw3 pa3 pb3 (.ref lo3) (.ref lk3) fm3), (oc4 lk3 kd3 st3 (.ref r3) gb3 jt3 we3)]) (by rw [hT_1]; exact (show va_P (dC, dI) classes (([(oc3 lw (.ref dr) (.ref tg) (.ref wy) (.ref br) (.ref bo) (.ref aa)), (oc6 dr (.ref dx) (.ref dy) (nI nd) rd), (oa dx cI cd P), (oa dy cI cd Q), (oc7 sh (.ref fa) (nI ft)), (oq fa cF 200 FA), (oc1 fe rk9 wd9 tw9 pa9 pb9 (.ref lo) (.ref lk) fm9), (oc4 lk kd9 st9 (.ref r) gb9 jt9 we9), (oc1 fe3 rk3 wd3 tw3 pa3 pb3 (.ref lo3) (.ref lk3) fm3), (oc4 lk3 kd3 st3 (.ref r3) gb3 jt3 we3)] ++ [(oc1 fe2 rk2 wd2 tw2 pa2 pb2 (.ref lo2) (.ref lk2) fm2), (oc4 lk2 (kd g5) (st g5) .null gb2 jt2 we2)]) ++ va_pl T_1 f) H from hP)) hc9_1
          have hD : va_D A ([(oc3 lw (.ref dr) (.ref tg) (.ref wy) (.ref br) (.ref bo) (.ref aa)), (oc6 dr (.ref dx) (.ref dy) (nI nd) rd), (oa dx cI cd P), (oa dy cI cd Q), (oc7 sh (.ref fa) (nI ft)), (oq fa cF 200 FA), (oc1 fe rk9 wd9 tw9 pa9 pb9 (.ref lo) (.ref lk) fm9), (oc4 lk kd9 st9 (.ref r) gb9 jt9 we9), (oc1 fe3 rk3 wd3 tw3 pa3 pb3 (.ref lo3) (.ref lk3) fm3), (oc4 lk3 kd3 st3 (.ref r3) gb3 jt3 we3)] ++ va_pl L f) := vaD_ae hD0_1 rfl
          refine lv_iinc (v := nI (g5 + 1)) (lv' := [(4, .int (nI (g5 + 1))), (5, .null), (0, .ref lw), (1, .ref sh), (2, .ref fe), (3, .ref fe3)]) hx hb dX4_isFreeFor_74 hl (k := 1) rfl (nI_add g5 1) (Nat.le_of_ble_eq_true rfl) rfl (fun ls hl => ?_)
          refine lv_goto (tgt := 3) hx hb dX4_isFreeFor_77 rfl ?_
          exact ih_3 (g5 + 1) H locs ls (by first | with_reducible assumption | omega) (by first | with_reducible assumption | omega) (by intro q hq; rcases Nat.lt_or_ge q g5 with h | h; exact hall q h; rw [show q = g5 by omega]; intro h1 h3 h2; first | exact absurd hif h1 | exact absurd hig h3 | exact absurd h2.2.1 hs2 | exact absurd h2.2.2 ht2 | exact ⟨by assumption, by assumption⟩) hP hD hS (lv_sub hl [0, 2, 3, 4, 5] rfl)
        · skip
          have hw2 := hwf g5 hlv2
          have hn2 := hw2.2.1
          have hq2 := rw_pls hrr2 hw2
          have hkn2 := hkn g5 hlv2
          have hcap2 := hrr2.1
          have hcap3 := hrr2.2.1
          have h1m2 : 1 ≤ nN (mn g5) := hw2.2.1.1
          have hrk2 := rgK_e hrr2.2.2.2.1
          have hc02 := hrr2.2.2.2.2 0 h1m2
          have hc9_1 : inPl L f [(oc1 fe2 rk2 wd2 tw2 pa2 pb2 (.ref lo2) (.ref lk2) fm2), (oc4 lk2 (kd g5) (st g5) (.ref r2) gb2 jt2 we2), (oc6 r2 (.ref rx2) (.ref ry2) (nI (nN (mn g5))) rg2), (oa rx2 cI cap2 U2), (oa ry2 cI cap2 V2)] := ⟨hfe2, hlk2, hr2, hrx2, hry2, trivial⟩
          have hD0_1 := hD
          obtain ⟨hP, hD⟩ := pl_out hP hD [(oc1 fe2 rk2 wd2 tw2 pa2 pb2 (.ref lo2) (.ref lk2) fm2), (oc4 lk2 (kd g5) (st g5) (.ref r2) gb2 jt2 we2), (oc6 r2 (.ref rx2) (.ref ry2) (nI (nN (mn g5))) rg2), (oa rx2 cI cap2 U2), (oa ry2 cI cap2 V2)] hc9_1 (pwR hfe2.2 hlk2.2 hr2.2 hrx2.2 hry2.2 hne2)
          generalize hT_1 : outPl L [(oc1 fe2 rk2 wd2 tw2 pa2 pb2 (.ref lo2) (.ref lk2) fm2), (oc4 lk2 (kd g5) (st g5) (.ref r2) gb2 jt2 we2), (oc6 r2 (.ref rx2) (.ref ry2) (nI (nN (mn g5))) rg2), (oa rx2 cI cap2 U2), (oa ry2 cI cap2 V2)] = T_1 at hP hD
          obtain ⟨hP, hD⟩ : zPD (dC, dI) classes A ([(oc3 lw (.ref dr) (.ref tg) (.ref wy) (.ref br) (.ref bo) (.ref aa)), (oc6 dr (.ref dx) (.ref dy) (nI nd) rd), (oa dx cI cd P), (oa dy cI cd Q), (oc7 sh (.ref fa) (nI ft)), (oq fa cF 200 FA), (oc1 fe rk9 wd9 tw9 pa9 pb9 (.ref lo) (.ref lk) fm9), (oc4 lk kd9 st9 (.ref r) gb9 jt9 we9), (oc1 fe3 rk3 wd3 tw3 pa3 pb3 (.ref lo3) (.ref lk3) fm3), (oc4 lk3 kd3 st3 (.ref r3) gb3 jt3 we3), (oc1 fe2 rk2 wd2 tw2 pa2 pb2 (.ref lo2) (.ref lk2) fm2), (oc4 lk2 (kd g5) (st g5) (.ref r2) gb2 jt2 we2), (oc6 r2 (.ref rx2) (.ref ry2) (nI (nN (mn g5))) rg2), (oa rx2 cI cap2 U2), (oa ry2 cI cap2 V2)] ++ va_pl T_1 f) H := ⟨hP, hD⟩
          refine lv_aload_n hx hb dX4_isFreeFor_12 rfl (lv_at hl 2 rfl) ?_
          refine lv_iload hx hb dX4_isFreeFor_13 (lv_at hl 0 rfl) ?_
          obtain ⟨hPc, hDc, hFc⟩ := zc_sub (wc := [(oc7 sh (.ref fa) (nI ft)), (oq fa cF 200 FA), (oc1 fe2 rk2 wd2 tw2 pa2 pb2 (.ref lo2) (.ref lk2) fm2), (oc4 lk2 (kd g5) (st g5) (.ref r2) gb2 jt2 we2)]) hP hD hS hA [4, 5, 10, 11] rfl rfl
          refine zcall (st1 := [.ref r2]) (va_runV (As := [.int (nI g5)]) (rest := []) ⟨hx, hb, hml, hown, hts⟩ (k_Sheet_rowThere_yv l dC dI cI cZ cF H.size sh fa ft FA g5 fe2 lo2 rk2 wd2 tw2 pa2 pb2 lk2 (kd g5) (st g5) gb2 jt2 we2 r2 fm2 (by first | with_reducible assumption | omega) (by first | with_reducible assumption | omega) (by first | exact hFi | exact hFA2) (by first | exact hs1 | exact hs2 | exact hlv2.2.1 | exact hs3)) (csV_62 hts rfl rfl ⟨Nat.le_of_ble_eq_true rfl, Nat.le_of_ble_eq_true rfl⟩) (zPV2 (q0 := 0) (ci := 7) hPc hDc hK hXN rfl rfl) rfl rfl hl.1 rfl (lv_room (Nat.le_of_ble_eq_true rfl)) dX4_isFreeFor_15 ⟨Nat.le_of_ble_eq_true rfl, Nat.le_of_ble_eq_true rfl⟩) hS hFc hFc rfl (fun t H locs ht hB hk1 hS => ?_)
          obtain ⟨hP1, hD1⟩ := hB
          rw [ht] at hP1
          obtain ⟨hP, hD⟩ := zkQ (W2 := [(oc3 lw (.ref dr) (.ref tg) (.ref wy) (.ref br) (.ref bo) (.ref aa)), (oc6 dr (.ref dx) (.ref dy) (nI nd) rd), (oa dx cI cd P), (oa dy cI cd Q), (oc7 sh (.ref fa) (nI ft)), (oq fa cF 200 FA), (oc1 fe rk9 wd9 tw9 pa9 pb9 (.ref lo) (.ref lk) fm9), (oc4 lk kd9 st9 (.ref r) gb9 jt9 we9), (oc1 fe3 rk3 wd3 tw3 pa3 pb3 (.ref lo3) (.ref lk3) fm3), (oc4 lk3 kd3 st3 (.ref r3) gb3 jt3 we3), (oc1 fe2 rk2 wd2 tw2 pa2 pb2 (.ref lo2) (.ref lk2) fm2), (oc4 lk2 (kd g5) (st g5) (.ref r2) gb2 jt2 we2), (oc6 r2 (.ref rx2) (.ref ry2) (nI (nN (mn g5))) rg2), (oa rx2 cI cap2 U2), (oa ry2 cI cap2 V2)]) hP hD [4, 5, 10, 11] [0, 1, 2, 3, 6, 7, 8, 9, 12, 13, 14] [0, 1, 2, 3, 6, 7, 8, 9, 12, 13, 14] [4, 5, 10, 11] [0, 1, 2, 3, 11, 12, 4, 5, 6, 7, 13, 14, 8, 9, 10] 15 rfl rfl rfl rfl rfl rfl rfl rfl rfl hk1 hFc hP1 hD1
          clear hk1 hPc hDc hFc hP1 hD1 ht
          refine lv_astore (lv' := [(5, .ref r2), (4, .int (nI g5)), (0, .ref lw), (1, .ref sh), (2, .ref fe), (3, .ref fe3)]) hx hb dX4_isFreeFor_18 hl (Nat.le_of_ble_eq_true rfl) rfl (fun ls hl => ?_)
          refine lv_aload hx hb dX4_isFreeFor_20 (lv_at hl 0 rfl) ?_
          refine lv_ifnull hx hb dX4_isFreeFor_22 ?_
          refine lv_aload_n hx hb dX4_isFreeFor_25 rfl (lv_at hl 3 rfl) ?_
          refine lv_iload hx hb dX4_isFreeFor_26 (lv_at hl 1 rfl) ?_
          obtain ⟨hPc, hDc, hFc⟩ := zc_sub (wc := [(oc7 sh (.ref fa) (nI ft)), (oq fa cF 200 FA)]) hP hD hS hA [4, 5] rfl rfl
          refine zcall (st1 := [.ref fe2]) (va_runV (As := [.int (nI g5)]) (rest := []) ⟨hx, hb, hml, hown, hts⟩ (k_Sheet_find l dC dI cI cZ cF H.size sh fa ft FA g5 fe2 (by first | with_reducible assumption | omega) (by first | with_reducible assumption | omega) (by first | exact hFi | exact hFA2)) (csV_63 hts rfl rfl ⟨Nat.le_of_ble_eq_true rfl, Nat.le_of_ble_eq_true rfl⟩) (zPV2 (q0 := 0) (ci := 7) hPc hDc hK hXN rfl rfl) rfl rfl hl.1 rfl (lv_room (Nat.le_of_ble_eq_true rfl)) dX4_isFreeFor_28 ⟨Nat.le_of_ble_eq_true rfl, Nat.le_of_ble_eq_true rfl⟩) hS hFc hFc rfl (fun t H locs ht hB hk1 hS => ?_)
          obtain ⟨hP1, hD1⟩ := hB
          rw [ht] at hP1
          obtain ⟨hP, hD⟩ := zkQ (W2 := [(oc3 lw (.ref dr) (.ref tg) (.ref wy) (.ref br) (.ref bo) (.ref aa)), (oc6 dr (.ref dx) (.ref dy) (nI nd) rd), (oa dx cI cd P), (oa dy cI cd Q), (oc7 sh (.ref fa) (nI ft)), (oq fa cF 200 FA), (oc1 fe rk9 wd9 tw9 pa9 pb9 (.ref lo) (.ref lk) fm9), (oc4 lk kd9 st9 (.ref r) gb9 jt9 we9), (oc1 fe3 rk3 wd3 tw3 pa3 pb3 (.ref lo3) (.ref lk3) fm3), (oc4 lk3 kd3 st3 (.ref r3) gb3 jt3 we3), (oc1 fe2 rk2 wd2 tw2 pa2 pb2 (.ref lo2) (.ref lk2) fm2), (oc4 lk2 (kd g5) (st g5) (.ref r2) gb2 jt2 we2), (oc6 r2 (.ref rx2) (.ref ry2) (nI (nN (mn g5))) rg2), (oa rx2 cI cap2 U2), (oa ry2 cI cap2 V2)]) hP hD [4, 5] [0, 1, 2, 3, 6, 7, 8, 9, 10, 11, 12, 13, 14] [0, 1, 2, 3, 6, 7, 8, 9, 10, 11, 12, 13, 14] [4, 5] [0, 1, 2, 3, 13, 14, 4, 5, 6, 7, 8, 9, 10, 11, 12] 15 rfl rfl rfl rfl rfl rfl rfl rfl rfl hk1 hFc hP1 hD1
          clear hk1 hPc hDc hFc hP1 hD1 ht
          refine lv_aload_n hx hb dX4_isFreeFor_31 rfl (lv_at hl 4 rfl) ?_
          refine z_acmpeq (rx := fe2) (ry := fe) (tgt := 74) hx hb dX4_isFreeFor_32 (by decide) (fun c_7 => ?_) (fun c_7 => ?_)
          · have c_7 : fe2 = fe := c_7
            exfalso; exact absurd (by first | with_reducible assumption | assumption) (pl_sep (q := (oc1 fe rk9 wd9 tw9 pa9 pb9 (.ref lo) (.ref lk) fm9)) hD0_1 (by simp) hfe2.1)
          · have c_7 : ¬ fe2 = fe := c_7
            refine lv_aload_n hx hb dX4_isFreeFor_35 rfl (lv_at hl 3 rfl) ?_
            refine lv_iload hx hb dX4_isFreeFor_36 (lv_at hl 1 rfl) ?_
            obtain ⟨hPc, hDc, hFc⟩ := zc_sub (wc := [(oc7 sh (.ref fa) (nI ft)), (oq fa cF 200 FA)]) hP hD hS hA [4, 5] rfl rfl
            refine zcall (st1 := [.ref fe2]) (va_runV (As := [.int (nI g5)]) (rest := []) ⟨hx, hb, hml, hown, hts⟩ (k_Sheet_find l dC dI cI cZ cF H.size sh fa ft FA g5 fe2 (by first | with_reducible assumption | omega) (by first | with_reducible assumption | omega) (by first | exact hFi | exact hFA2)) (csV_63 hts rfl rfl ⟨Nat.le_of_ble_eq_true rfl, Nat.le_of_ble_eq_true rfl⟩) (zPV2 (q0 := 0) (ci := 7) hPc hDc hK hXN rfl rfl) rfl rfl hl.1 rfl (lv_room (Nat.le_of_ble_eq_true rfl)) dX4_isFreeFor_38 ⟨Nat.le_of_ble_eq_true rfl, Nat.le_of_ble_eq_true rfl⟩) hS hFc hFc rfl (fun t H locs ht hB hk1 hS => ?_)
            obtain ⟨hP1, hD1⟩ := hB
            rw [ht] at hP1
            obtain ⟨hP, hD⟩ := zkQ (W2 := [(oc3 lw (.ref dr) (.ref tg) (.ref wy) (.ref br) (.ref bo) (.ref aa)), (oc6 dr (.ref dx) (.ref dy) (nI nd) rd), (oa dx cI cd P), (oa dy cI cd Q), (oc7 sh (.ref fa) (nI ft)), (oq fa cF 200 FA), (oc1 fe rk9 wd9 tw9 pa9 pb9 (.ref lo) (.ref lk) fm9), (oc4 lk kd9 st9 (.ref r) gb9 jt9 we9), (oc1 fe3 rk3 wd3 tw3 pa3 pb3 (.ref lo3) (.ref lk3) fm3), (oc4 lk3 kd3 st3 (.ref r3) gb3 jt3 we3), (oc1 fe2 rk2 wd2 tw2 pa2 pb2 (.ref lo2) (.ref lk2) fm2), (oc4 lk2 (kd g5) (st g5) (.ref r2) gb2 jt2 we2), (oc6 r2 (.ref rx2) (.ref ry2) (nI (nN (mn g5))) rg2), (oa rx2 cI cap2 U2), (oa ry2 cI cap2 V2)]) hP hD [4, 5] [0, 1, 2, 3, 6, 7, 8, 9, 10, 11, 12, 13, 14] [0, 1, 2, 3, 6, 7, 8, 9, 10, 11, 12, 13, 14] [4, 5] [0, 1, 2, 3, 13, 14, 4, 5, 6, 7, 8, 9, 10, 11, 12] 15 rfl rfl rfl rfl rfl rfl rfl rfl rfl hk1 hFc hP1 hD1
            clear hk1 hPc hDc hFc hP1 hD1 ht
            refine lv_aload_n hx hb dX4_isFreeFor_41 rfl (lv_at hl 5 rfl) ?_
            refine z_acmpne (rx := fe2) (ry := fe3) (tgt := 48) hx hb dX4_isFreeFor_42 (by decide) (fun c_8 => ?_) (fun c_8 => ?_)
            · have c_8 : ¬ fe2 = fe3 := c_8
              refine lv_aload_n hx hb dX4_isFreeFor_48 rfl (lv_at hl 2 rfl) ?_
              refine va_get (D := (dC, dI)) (ci := 3) (v := .ref dr) (C := RX4) (T := TX4) (N := 6) hx hb hts inX4 hown hK hP 0 rfl rfl 0 (Nat.le_of_ble_eq_true rfl) (hts _ mw_219) (fun _ h9 => h9) rfl dX4_isFreeFor_49 ?_
              refine lv_aload hx hb dX4_isFreeFor_52 (lv_at hl 0 rfl) ?_
              obtain ⟨hPc, hDc, hFc⟩ := zc_sub (wc := [(oc6 dr (.ref dx) (.ref dy) (nI nd) rd), (oa dx cI cd P), (oa dy cI cd Q), (oc6 r2 (.ref rx2) (.ref ry2) (nI (nN (mn g5))) rg2), (oa rx2 cI cap2 U2), (oa ry2 cI cap2 V2)]) hP hD hS hA [1, 2, 3, 12, 13, 14] rfl rfl
              refine zcall (st1 := [.int (pI (∃ i, i < prt nd rd ∧ ∃ j, j < prt (nN (mn g5)) rg2 ∧ eMt nd P Q i (nN (mn g5)) U2 V2 j))]) (va_runV (As := [.ref r2]) (rest := []) ⟨hx, hb, hml, hown, hts⟩ (k_Row_touches l dC dI cI cZ cF H.size dr dx dy nd cd P Q rd r2 rx2 ry2 (nN (mn g5)) cap2 U2 V2 rg2 (by first | with_reducible assumption | omega) (by first | with_reducible assumption | omega) (hpd) (by first | with_reducible assumption | omega) (by first | with_reducible assumption | omega) (hq2)) (csV_56 hts rfl rfl ⟨Nat.le_of_ble_eq_true rfl, Nat.le_of_ble_eq_true rfl⟩) (zPV2 (q0 := 0) (ci := 6) hPc hDc hK hXN rfl rfl) rfl rfl hl.1 rfl (lv_room (Nat.le_of_ble_eq_true rfl)) dX4_isFreeFor_54 ⟨Nat.le_of_ble_eq_true rfl, Nat.le_of_ble_eq_true rfl⟩) hS hFc hFc rfl (fun t H locs ht hB hk1 hS => ?_)
              obtain ⟨hP1, hD1⟩ := hB
              rw [ht] at hP1
              obtain ⟨hP, hD⟩ := zkQ (W2 := [(oc3 lw (.ref dr) (.ref tg) (.ref wy) (.ref br) (.ref bo) (.ref aa)), (oc6 dr (.ref dx) (.ref dy) (nI nd) rd), (oa dx cI cd P), (oa dy cI cd Q), (oc7 sh (.ref fa) (nI ft)), (oq fa cF 200 FA), (oc1 fe rk9 wd9 tw9 pa9 pb9 (.ref lo) (.ref lk) fm9), (oc4 lk kd9 st9 (.ref r) gb9 jt9 we9), (oc1 fe3 rk3 wd3 tw3 pa3 pb3 (.ref lo3) (.ref lk3) fm3), (oc4 lk3 kd3 st3 (.ref r3) gb3 jt3 we3), (oc1 fe2 rk2 wd2 tw2 pa2 pb2 (.ref lo2) (.ref lk2) fm2), (oc4 lk2 (kd g5) (st g5) (.ref r2) gb2 jt2 we2), (oc6 r2 (.ref rx2) (.ref ry2) (nI (nN (mn g5))) rg2), (oa rx2 cI cap2 U2), (oa ry2 cI cap2 V2)]) hP hD [1, 2, 3, 12, 13, 14] [0, 4, 5, 6, 7, 8, 9, 10, 11] [0, 4, 5, 6, 7, 8, 9, 10, 11] [1, 2, 3, 12, 13, 14] [0, 9, 10, 11, 1, 2, 3, 4, 5, 6, 7, 8, 12, 13, 14] 15 rfl rfl rfl rfl rfl rfl rfl rfl rfl hk1 hFc hP1 hD1
              clear hk1 hPc hDc hFc hP1 hD1 ht
              refine zz_i (v := pI (tch nd P Q rd (nN (mn g5)) (cF40 cx g5) (cF40 cy g5) (rgK (kd g5).toInt))) (by rw [← hrk2]; exact zp_iff (tch_cg hrr2.2.2.2.2)) ?_
              refine lv_if_ne (tgt := 72) hx hb dX4_isFreeFor_57 rfl (fun c_9 => ?_) (fun c_9 => ?_)
              · have c_9 : tch nd P Q rd (nN (mn g5)) (cF40 cx g5) (cF40 cy g5) (rgK (kd g5).toInt) := zp_1 c_9
                have hP := pl_back (cs := [(oc1 fe2 rk2 wd2 tw2 pa2 pb2 (.ref lo2) (.ref lk2) fm2), (oc4 lk2 (kd g5) (st g5) (.ref r2) gb2 jt2 we2), (oc6 r2 (.ref rx2) (.ref ry2) (nI (nN (mn g5))) rg2), (oa rx2 cI cap2 U2), (oa ry2 cI cap2 V2)]) (L := L) (f := f) (X := [(oc3 lw (.ref dr) (.ref tg) (.ref wy) (.ref br) (.ref bo) (.ref aa)), (oc6 dr (.ref dx) (.ref dy) (nI nd) rd), (oa dx cI cd P), (oa dy cI cd Q), (oc7 sh (.ref fa) (nI ft)), (oq fa cF 200 FA), (oc1 fe rk9 wd9 tw9 pa9 pb9 (.ref lo) (.ref lk) fm9), (oc4 lk kd9 st9 (.ref r) gb9 jt9 we9), (oc1 fe3 rk3 wd3 tw3 pa3 pb3 (.ref lo3) (.ref lk3) fm3), (oc4 lk3 kd3 st3 (.ref r3) gb3 jt3 we3)]) (by rw [hT_1]; exact (show va_P (dC, dI) classes (([(oc3 lw (.ref dr) (.ref tg) (.ref wy) (.ref br) (.ref bo) (.ref aa)), (oc6 dr (.ref dx) (.ref dy) (nI nd) rd), (oa dx cI cd P), (oa dy cI cd Q), (oc7 sh (.ref fa) (nI ft)), (oq fa cF 200 FA), (oc1 fe rk9 wd9 tw9 pa9 pb9 (.ref lo) (.ref lk) fm9), (oc4 lk kd9 st9 (.ref r) gb9 jt9 we9), (oc1 fe3 rk3 wd3 tw3 pa3 pb3 (.ref lo3) (.ref lk3) fm3), (oc4 lk3 kd3 st3 (.ref r3) gb3 jt3 we3)] ++ [(oc1 fe2 rk2 wd2 tw2 pa2 pb2 (.ref lo2) (.ref lk2) fm2), (oc4 lk2 (kd g5) (st g5) (.ref r2) gb2 jt2 we2), (oc6 r2 (.ref rx2) (.ref ry2) (nI (nN (mn g5))) rg2), (oa rx2 cI cap2 U2), (oa ry2 cI cap2 V2)]) ++ va_pl T_1 f) H from hP)) hc9_1
                have hD : va_D A ([(oc3 lw (.ref dr) (.ref tg) (.ref wy) (.ref br) (.ref bo) (.ref aa)), (oc6 dr (.ref dx) (.ref dy) (nI nd) rd), (oa dx cI cd P), (oa dy cI cd Q), (oc7 sh (.ref fa) (nI ft)), (oq fa cF 200 FA), (oc1 fe rk9 wd9 tw9 pa9 pb9 (.ref lo) (.ref lk) fm9), (oc4 lk kd9 st9 (.ref r) gb9 jt9 we9), (oc1 fe3 rk3 wd3 tw3 pa3 pb3 (.ref lo3) (.ref lk3) fm3), (oc4 lk3 kd3 st3 (.ref r3) gb3 jt3 we3)] ++ va_pl L f) := vaD_ae hD0_1 rfl
                refine lv_iconst (v := 0) hx hb dX4_isFreeFor_72 rfl ?_
                obtain ⟨hP9, hD9⟩ := zq_part (cx := [(oc3 lw (.ref dr) (.ref tg) (.ref wy) (.ref br) (.ref bo) (.ref aa)), (oc6 dr (.ref dx) (.ref dy) (nI nd) rd), (oa dx cI cd P), (oa dy cI cd Q), (oc7 sh (.ref fa) (nI ft)), (oq fa cF 200 FA), (oc1 fe rk9 wd9 tw9 pa9 pb9 (.ref lo) (.ref lk) fm9), (oc4 lk kd9 st9 (.ref r) gb9 jt9 we9), (oc1 fe3 rk3 wd3 tw3 pa3 pb3 (.ref lo3) (.ref lk3) fm3), (oc4 lk3 kd3 st3 (.ref r3) gb3 jt3 we3)]) hP hD [0, 1, 2, 3, 4, 5, 6, 7, 8, 9] rfl rfl
                rw [hQ9]
                exact W.zret (ty := .boolean) (v := 0) hx hb hr (rfl) (fun t ht hW => ⟨⟨congrArg (fun z => Outcome.returned (some (Value.int z))) (show (0 : Int32) = pI (∀ q, q < ft → (q ≠ f0 → q ≠ g0 → lvF ft st tn q → ¬ tch nd P Q rd (nN (mn q)) (cF40 cx q) (cF40 cy q) (rgK (kd q).toInt) ∧ ¬ inF 5 nd P Q (cF40 cx q 0).toInt (cF40 cy q 0).toInt)) from (zp_f (fun h => by have h9 := h g5 (by omega) hif.1 hif.2 hlv2; first | exact absurd (by first | with_reducible assumption | assumption) h9.1 | exact absurd (by first | with_reducible assumption | assumption) h9.2)).symm), by rw [ht]; exact hP9, hD9⟩, hS.F ht⟩) hS.2.2 dX4_isFreeFor_73
              · have c_9 : ¬ (tch nd P Q rd (nN (mn g5)) (cF40 cx g5) (cF40 cy g5) (rgK (kd g5).toInt)) := zp_0 c_9
                refine lv_aload_n hx hb dX4_isFreeFor_60 rfl (lv_at hl 2 rfl) ?_
                refine va_get (D := (dC, dI)) (ci := 3) (v := .ref dr) (C := RX4) (T := TX4) (N := 6) hx hb hts inX4 hown hK hP 0 rfl rfl 0 (Nat.le_of_ble_eq_true rfl) (hts _ mw_219) (fun _ h9 => h9) rfl dX4_isFreeFor_61 ?_
                refine lv_aload hx hb dX4_isFreeFor_64 (lv_at hl 0 rfl) ?_
                obtain ⟨hPc, hDc, hFc⟩ := zc_sub (wc := [(oc6 dr (.ref dx) (.ref dy) (nI nd) rd), (oa dx cI cd P), (oa dy cI cd Q), (oc6 r2 (.ref rx2) (.ref ry2) (nI (nN (mn g5))) rg2), (oa rx2 cI cap2 U2), (oa ry2 cI cap2 V2)]) hP hD hS hA [1, 2, 3, 12, 13, 14] rfl rfl
                refine zcall (st1 := [.int (pI (inF 5 nd P Q (U2 0).toInt (V2 0).toInt))]) (va_runS (As := [.ref dr, .ref r2]) (rest := []) ⟨hx, hb, hml, hown, hts⟩ (k_Law_isIn l dC dI cI cZ cF H.size dr dx dy nd cd P Q rd r2 rx2 ry2 (nN (mn g5)) cap2 U2 V2 rg2 (by first | with_reducible assumption | omega) (by first | with_reducible assumption | omega) (hpd) (by first | with_reducible assumption | omega) (by first | with_reducible assumption | omega) (hq2) (by first | with_reducible assumption | omega)) (csS_61 hts rfl rfl ⟨Nat.le_of_ble_eq_true rfl, Nat.le_of_ble_eq_true rfl⟩) (zPS2 hPc hDc hK hXN) rfl rfl hl.1 rfl (lv_room (Nat.le_of_ble_eq_true rfl)) dX4_isFreeFor_66 ⟨Nat.le_of_ble_eq_true rfl, Nat.le_of_ble_eq_true rfl⟩) hS hFc hFc rfl (fun t H locs ht hB hk1 hS => ?_)
                obtain ⟨hP1, hD1⟩ := hB
                rw [ht] at hP1
                obtain ⟨hP, hD⟩ := zkQ (W2 := [(oc3 lw (.ref dr) (.ref tg) (.ref wy) (.ref br) (.ref bo) (.ref aa)), (oc6 dr (.ref dx) (.ref dy) (nI nd) rd), (oa dx cI cd P), (oa dy cI cd Q), (oc7 sh (.ref fa) (nI ft)), (oq fa cF 200 FA), (oc1 fe rk9 wd9 tw9 pa9 pb9 (.ref lo) (.ref lk) fm9), (oc4 lk kd9 st9 (.ref r) gb9 jt9 we9), (oc1 fe3 rk3 wd3 tw3 pa3 pb3 (.ref lo3) (.ref lk3) fm3), (oc4 lk3 kd3 st3 (.ref r3) gb3 jt3 we3), (oc1 fe2 rk2 wd2 tw2 pa2 pb2 (.ref lo2) (.ref lk2) fm2), (oc4 lk2 (kd g5) (st g5) (.ref r2) gb2 jt2 we2), (oc6 r2 (.ref rx2) (.ref ry2) (nI (nN (mn g5))) rg2), (oa rx2 cI cap2 U2), (oa ry2 cI cap2 V2)]) hP hD [1, 2, 3, 12, 13, 14] [0, 4, 5, 6, 7, 8, 9, 10, 11] [0, 4, 5, 6, 7, 8, 9, 10, 11] [1, 2, 3, 12, 13, 14] [0, 9, 10, 11, 1, 2, 3, 4, 5, 6, 7, 8, 12, 13, 14] 15 rfl rfl rfl rfl rfl rfl rfl rfl rfl hk1 hFc hP1 hD1
                clear hk1 hPc hDc hFc hP1 hD1 ht
                refine zz_i (v := pI (inF 5 nd P Q (cF40 cx g5 0).toInt (cF40 cy g5 0).toInt)) (by rw [← hc02.1, ← hc02.2]) ?_
                refine lv_if_eq (tgt := 74) hx hb dX4_isFreeFor_69 rfl (fun c_10 => ?_) (fun c_10 => ?_)
                · have c_10 : ¬ (inF 5 nd P Q (cF40 cx g5 0).toInt (cF40 cy g5 0).toInt) := zp_0 c_10
                  have hP := pl_back (cs := [(oc1 fe2 rk2 wd2 tw2 pa2 pb2 (.ref lo2) (.ref lk2) fm2), (oc4 lk2 (kd g5) (st g5) (.ref r2) gb2 jt2 we2), (oc6 r2 (.ref rx2) (.ref ry2) (nI (nN (mn g5))) rg2), (oa rx2 cI cap2 U2), (oa ry2 cI cap2 V2)]) (L := L) (f := f) (X := [(oc3 lw (.ref dr) (.ref tg) (.ref wy) (.ref br) (.ref bo) (.ref aa)), (oc6 dr (.ref dx) (.ref dy) (nI nd) rd), (oa dx cI cd P), (oa dy cI cd Q), (oc7 sh (.ref fa) (nI ft)), (oq fa cF 200 FA), (oc1 fe rk9 wd9 tw9 pa9 pb9 (.ref lo) (.ref lk) fm9), (oc4 lk kd9 st9 (.ref r) gb9 jt9 we9), (oc1 fe3 rk3 wd3 tw3 pa3 pb3 (.ref lo3) (.ref lk3) fm3), (oc4 lk3 kd3 st3 (.ref r3) gb3 jt3 we3)]) (by rw [hT_1]; exact (show va_P (dC, dI) classes (([(oc3 lw (.ref dr) (.ref tg) (.ref wy) (.ref br) (.ref bo) (.ref aa)), (oc6 dr (.ref dx) (.ref dy) (nI nd) rd), (oa dx cI cd P), (oa dy cI cd Q), (oc7 sh (.ref fa) (nI ft)), (oq fa cF 200 FA), (oc1 fe rk9 wd9 tw9 pa9 pb9 (.ref lo) (.ref lk) fm9), (oc4 lk kd9 st9 (.ref r) gb9 jt9 we9), (oc1 fe3 rk3 wd3 tw3 pa3 pb3 (.ref lo3) (.ref lk3) fm3), (oc4 lk3 kd3 st3 (.ref r3) gb3 jt3 we3)] ++ [(oc1 fe2 rk2 wd2 tw2 pa2 pb2 (.ref lo2) (.ref lk2) fm2), (oc4 lk2 (kd g5) (st g5) (.ref r2) gb2 jt2 we2), (oc6 r2 (.ref rx2) (.ref ry2) (nI (nN (mn g5))) rg2), (oa rx2 cI cap2 U2), (oa ry2 cI cap2 V2)]) ++ va_pl T_1 f) H from hP)) hc9_1
                  have hD : va_D A ([(oc3 lw (.ref dr) (.ref tg) (.ref wy) (.ref br) (.ref bo) (.ref aa)), (oc6 dr (.ref dx) (.ref dy) (nI nd) rd), (oa dx cI cd P), (oa dy cI cd Q), (oc7 sh (.ref fa) (nI ft)), (oq fa cF 200 FA), (oc1 fe rk9 wd9 tw9 pa9 pb9 (.ref lo) (.ref lk) fm9), (oc4 lk kd9 st9 (.ref r) gb9 jt9 we9), (oc1 fe3 rk3 wd3 tw3 pa3 pb3 (.ref lo3) (.ref lk3) fm3), (oc4 lk3 kd3 st3 (.ref r3) gb3 jt3 we3)] ++ va_pl L f) := vaD_ae hD0_1 rfl
                  refine lv_iinc (v := nI (g5 + 1)) (lv' := [(4, .int (nI (g5 + 1))), (5, .ref r2), (0, .ref lw), (1, .ref sh), (2, .ref fe), (3, .ref fe3)]) hx hb dX4_isFreeFor_74 hl (k := 1) rfl (nI_add g5 1) (Nat.le_of_ble_eq_true rfl) rfl (fun ls hl => ?_)
                  refine lv_goto (tgt := 3) hx hb dX4_isFreeFor_77 rfl ?_
                  exact ih_3 (g5 + 1) H locs ls (by first | with_reducible assumption | omega) (by first | with_reducible assumption | omega) (by intro q hq; rcases Nat.lt_or_ge q g5 with h | h; exact hall q h; rw [show q = g5 by omega]; intro h1 h3 h2; first | exact absurd hif h1 | exact absurd hig h3 | exact absurd h2.2.1 hs2 | exact absurd h2.2.2 ht2 | exact ⟨by assumption, by assumption⟩) hP hD hS (lv_sub hl [0, 2, 3, 4, 5] rfl)
                · have c_10 : inF 5 nd P Q (cF40 cx g5 0).toInt (cF40 cy g5 0).toInt := zp_1 c_10
                  have hP := pl_back (cs := [(oc1 fe2 rk2 wd2 tw2 pa2 pb2 (.ref lo2) (.ref lk2) fm2), (oc4 lk2 (kd g5) (st g5) (.ref r2) gb2 jt2 we2), (oc6 r2 (.ref rx2) (.ref ry2) (nI (nN (mn g5))) rg2), (oa rx2 cI cap2 U2), (oa ry2 cI cap2 V2)]) (L := L) (f := f) (X := [(oc3 lw (.ref dr) (.ref tg) (.ref wy) (.ref br) (.ref bo) (.ref aa)), (oc6 dr (.ref dx) (.ref dy) (nI nd) rd), (oa dx cI cd P), (oa dy cI cd Q), (oc7 sh (.ref fa) (nI ft)), (oq fa cF 200 FA), (oc1 fe rk9 wd9 tw9 pa9 pb9 (.ref lo) (.ref lk) fm9), (oc4 lk kd9 st9 (.ref r) gb9 jt9 we9), (oc1 fe3 rk3 wd3 tw3 pa3 pb3 (.ref lo3) (.ref lk3) fm3), (oc4 lk3 kd3 st3 (.ref r3) gb3 jt3 we3)]) (by rw [hT_1]; exact (show va_P (dC, dI) classes (([(oc3 lw (.ref dr) (.ref tg) (.ref wy) (.ref br) (.ref bo) (.ref aa)), (oc6 dr (.ref dx) (.ref dy) (nI nd) rd), (oa dx cI cd P), (oa dy cI cd Q), (oc7 sh (.ref fa) (nI ft)), (oq fa cF 200 FA), (oc1 fe rk9 wd9 tw9 pa9 pb9 (.ref lo) (.ref lk) fm9), (oc4 lk kd9 st9 (.ref r) gb9 jt9 we9), (oc1 fe3 rk3 wd3 tw3 pa3 pb3 (.ref lo3) (.ref lk3) fm3), (oc4 lk3 kd3 st3 (.ref r3) gb3 jt3 we3)] ++ [(oc1 fe2 rk2 wd2 tw2 pa2 pb2 (.ref lo2) (.ref lk2) fm2), (oc4 lk2 (kd g5) (st g5) (.ref r2) gb2 jt2 we2), (oc6 r2 (.ref rx2) (.ref ry2) (nI (nN (mn g5))) rg2), (oa rx2 cI cap2 U2), (oa ry2 cI cap2 V2)]) ++ va_pl T_1 f) H from hP)) hc9_1
                  have hD : va_D A ([(oc3 lw (.ref dr) (.ref tg) (.ref wy) (.ref br) (.ref bo) (.ref aa)), (oc6 dr (.ref dx) (.ref dy) (nI nd) rd), (oa dx cI cd P), (oa dy cI cd Q), (oc7 sh (.ref fa) (nI ft)), (oq fa cF 200 FA), (oc1 fe rk9 wd9 tw9 pa9 pb9 (.ref lo) (.ref lk) fm9), (oc4 lk kd9 st9 (.ref r) gb9 jt9 we9), (oc1 fe3 rk3 wd3 tw3 pa3 pb3 (.ref lo3) (.ref lk3) fm3), (oc4 lk3 kd3 st3 (.ref r3) gb3 jt3 we3)] ++ va_pl L f) := vaD_ae hD0_1 rfl
                  refine lv_iconst (v := 0) hx hb dX4_isFreeFor_72 rfl ?_
                  obtain ⟨hP9, hD9⟩ := zq_part (cx := [(oc3 lw (.ref dr) (.ref tg) (.ref wy) (.ref br) (.ref bo) (.ref aa)), (oc6 dr (.ref dx) (.ref dy) (nI nd) rd), (oa dx cI cd P), (oa dy cI cd Q), (oc7 sh (.ref fa) (nI ft)), (oq fa cF 200 FA), (oc1 fe rk9 wd9 tw9 pa9 pb9 (.ref lo) (.ref lk) fm9), (oc4 lk kd9 st9 (.ref r) gb9 jt9 we9), (oc1 fe3 rk3 wd3 tw3 pa3 pb3 (.ref lo3) (.ref lk3) fm3), (oc4 lk3 kd3 st3 (.ref r3) gb3 jt3 we3)]) hP hD [0, 1, 2, 3, 4, 5, 6, 7, 8, 9] rfl rfl
                  rw [hQ9]
                  exact W.zret (ty := .boolean) (v := 0) hx hb hr (rfl) (fun t ht hW => ⟨⟨congrArg (fun z => Outcome.returned (some (Value.int z))) (show (0 : Int32) = pI (∀ q, q < ft → (q ≠ f0 → q ≠ g0 → lvF ft st tn q → ¬ tch nd P Q rd (nN (mn q)) (cF40 cx q) (cF40 cy q) (rgK (kd q).toInt) ∧ ¬ inF 5 nd P Q (cF40 cx q 0).toInt (cF40 cy q 0).toInt)) from (zp_f (fun h => by have h9 := h g5 (by omega) hif.1 hif.2 hlv2; first | exact absurd (by first | with_reducible assumption | assumption) h9.1 | exact absurd (by first | with_reducible assumption | assumption) h9.2)).symm), by rw [ht]; exact hP9, hD9⟩, hS.F ht⟩) hS.2.2 dX4_isFreeFor_73
            · have c_8 : fe2 = fe3 := c_8
              exfalso; exact absurd (by first | with_reducible assumption | assumption) (pl_sep (q := (oc1 fe3 rk3 wd3 tw3 pa3 pb3 (.ref lo3) (.ref lk3) fm3)) hD0_1 (by simp) hfe2.1)
  exact hl_3 _ 0 s.heap [] ls (Nat.lt_succ_self _) (by first | with_reducible assumption | omega) (by intro q hq; omega) hP hD hS (lv_sub hl [0, 1, 2, 3, 4] rfl)
end
section
/-! a corner goes, by the class -/
def ctF (X : Nat → Int32) (k : Nat) : Nat → Int32 := fun j => if j < k then X j else X (j + 1)
def bareK (ft : Nat) (st tn kd mn cx cy : Nat → Int32) (f0 : Nat) (x y : Int) : Prop := ∀ q, q < ft → (q ≠ f0 → lvF ft st tn q → ¬ onF kd mn cx cy q x y)
/-- the draft is lawful where corner k goes -/
def alC (ft : Nat) (st tn kd mn cx cy : Nat → Int32) (f0 n : Nat) (X Y : Nat → Int32) (rg : Int32) (nd : Nat) (P Q : Nat → Int32) (rd : Int32) (k5 : Nat) : Prop :=
  pls nd P Q ∧ eFr nd P Q rd (prv nd (gpK nd k5)) 0 ∧ ∀ q, q < ft → (q ≠ f0 → lvF ft st tn q → (apB (min (min (X k5).toInt (X (prv n k5)).toInt) (X (nxt n k5)).toInt) (min (min (Y k5).toInt (Y (prv n k5)).toInt) (Y (nxt n k5)).toInt) (max (max (X k5).toInt (X (prv n k5)).toInt) (X (nxt n k5)).toInt) (max (max (Y k5).toInt (Y (prv n k5)).toInt) (Y (nxt n k5)).toInt) (nN (mn q)) (cF40 cx q) (cF40 cy q) ∨ (asb n X Y rg nd P Q rd (nN (mn q)) (cF40 cx q) (cF40 cy q) (rgK (kd q).toInt) ∧ (¬ ∃ j, j < nN (mn q) ∧ swC n X Y k5 (cF40 cx q j).toInt (cF40 cy q j).toInt))))
section
variable {n m : Nat} {X Y P Q U V S T : Nat → Int32}
theorem eFd_cg (h : ∀ j, j < n → X j = P j ∧ Y j = Q j) {k : Nat} (hk : k < n) : eFd n X Y k = eFd n P Q k := by
  have a := prv_lt (n := n) (i := k) hk; have b := nxt_lt (n := n) (i := k) (by omega)
  unfold eFd; rw [(h k hk).1, (h k hk).2, (h _ a).1, (h _ a).2, (h _ b).1, (h _ b).2]
theorem eFr_cg (h : ∀ j, j < n → X j = P j ∧ Y j = Q j) {rg : Int32} {i f : Nat} (hi : i < n) : eFr n X Y rg i f ↔ eFr n P Q rg i f := by
  have b := nxt_lt (n := n) (i := i) (by omega)
  have le := edg_le n rg
  unfold eFr
  rw [(h i hi).1, (h i hi).2, (h _ b).1, (h _ b).2]
  refine and_congr_right fun _ => forall_congr' fun j => imp_congr_right fun h1 => imp_congr_right fun h2 => imp_congr_right fun h3 => ?_
  rw [eFd_cg h (k := j) (by omega), eFd_cg h hi, eMt_cg h h hi (k := j) (by omega)]
theorem tch_cl (h : ∀ j, j < n → X j = P j ∧ Y j = Q j) {rg rh : Int32} : tch n X Y rg m U V rh ↔ tch n P Q rg m U V rh := by
  have p1 := prt_le n rg; have p2 := prt_le m rh
  exact exists_congr fun i => and_congr_right fun hi => exists_congr fun j => and_congr_right fun hj => by rw [eMt_cg h (fun _ _ => ⟨rfl, rfl⟩) (by omega) (by omega)]
theorem asb_cd {nd : Nat} {rg rd rh : Int32} (h1 : 1 ≤ nd) (h : ∀ j, j < nd → P j = S j ∧ Q j = T j) : asb n X Y rg nd P Q rd m U V rh ↔ asb n X Y rg nd S T rd m U V rh := by
  unfold asb
  rw [tch_cl h, (h 0 (by omega)).1, (h 0 (by omega)).2]
  exact and_congr_right fun _ => and_congr (imp_congr_right fun _ => forall_congr' fun k => imp_congr_right fun _ => by rw [inF_cg h1 h]) Iff.rfl
end
theorem alC_cg {ft : Nat} {st tn kd mn cx cy : Nat → Int32} {f0 n : Nat} {X Y : Nat → Int32} {rg : Int32} {nd : Nat} {P Q S T : Nat → Int32} {rd : Int32} {k5 : Nat} (h1 : 1 ≤ nd) (h : ∀ j, j < nd → P j = S j ∧ Q j = T j) : alC ft st tn kd mn cx cy f0 n X Y rg nd P Q rd k5 ↔ alC ft st tn kd mn cx cy f0 n X Y rg nd S T rd k5 := by
  have hg : gpK nd k5 < nd := by unfold gpK; split <;> omega
  have hp := prv_lt (n := nd) (i := gpK nd k5) hg
  unfold alC
  rw [pls_cg h, eFr_cg h hp]
  refine and_congr_right fun _ => and_congr_right fun _ => forall_congr' fun q => imp_congr_right fun _ => imp_congr_right fun _ => imp_congr_right fun _ => or_congr Iff.rfl (and_congr (asb_cd h1 h) Iff.rfl)
theorem ct_cg {n k : Nat} {X Y P Q P1 Q1 : Nat → Int32} (hc : ∀ j, j < n → P j = X j ∧ Q j = Y j) (h1 : ∀ j, j < k → P1 j = P j ∧ Q1 j = Q j) (h2 : ∀ j, k ≤ j → j < n - 1 → P1 j = P (j + 1) ∧ Q1 j = Q (j + 1)) (hk : k < n) : ∀ j, j < n - 1 → P1 j = ctF X k j ∧ Q1 j = ctF Y k j := by
  intro j hj
  unfold ctF
  rcases Nat.lt_or_ge j k with g | g
  · rw [if_pos g, if_pos g, (h1 j g).1, (h1 j g).2]; exact hc j (by omega)
  · rw [if_neg (by omega), if_neg (by omega), (h2 j g hj).1, (h2 j g hj).2]; exact hc (j + 1) (by omega)
/-- a corner's area, -1 where it is an end -/
def arE (n : Nat) (rg : Int32) (k : Nat) : Prop := rg.toInt = 0 ∧ (k = 0 ∨ k = n - 1)
def arT (n : Nat) (X Y : Nat → Int32) (k : Nat) : Nat := Int.natAbs (eCr n X Y (prv n k) (X (nxt n k)).toInt (Y (nxt n k)).toInt)
theorem arT_b {n : Nat} {X Y : Nat → Int32} (hp : pls n X Y) {k : Nat} (hk : k < n) : arT n X Y k ≤ 2000000 := by
  have hv := prv_lt (n := n) (i := k) hk; have hx := nxt_lt (n := n) (i := k) (by omega)
  have hy := nxt_lt (n := n) (i := prv n k) (by omega)
  have hB := crBp (hp _ hv).1 (hp _ hv).2 (hp _ hy).1 (hp _ hy).2 (hp _ hx).1 (hp _ hx).2
  unfold arT; have : -2000000 ≤ eCr n X Y (prv n k) (X (nxt n k)).toInt (Y (nxt n k)).toInt ∧ eCr n X Y (prv n k) (X (nxt n k)).toInt (Y (nxt n k)).toInt ≤ 2000000 := hB
  omega
/-- the areas as they stand while some corners were tried in vain -/
def arI (n : Nat) (X Y : Nat → Int32) (rg : Int32) (R : Nat → Prop) (AR : Nat → Int32) : Prop := ∀ j, j < n → ((R j ∨ arE n rg j) → AR j = -1) ∧ (¬ (R j ∨ arE n rg j) → AR j = nI (arT n X Y j))
theorem arI_f {n : Nat} {X Y : Nat → Int32} {rg : Int32} {R : Nat → Prop} {AR : Nat → Int32} (hp : pls n X Y) (h : arI n X Y rg R AR) {lim : Int32} {j : Nat} (hj : j < n) : (0 ≤ (AR j).toInt ∧ (AR j).toInt ≤ lim.toInt) ↔ (¬ R j ∧ ¬ arE n rg j ∧ ((arT n X Y j : Nat) : Int) ≤ lim.toInt) := by
  have hb := arT_b hp hj
  by_cases e : R j ∨ arE n rg j
  · rw [(h j hj).1 e]
    exact ⟨fun q => absurd q.1 (by decide), fun q => e.elim (fun g => absurd g q.1) (fun g => absurd g q.2.1)⟩
  · rw [(h j hj).2 e, nI_toInt (by omega)]
    exact ⟨fun q => ⟨fun g => e (Or.inl g), fun g => e (Or.inr g), q.2⟩, fun q => ⟨by omega, q.2.2⟩⟩
theorem arI_t {n : Nat} {X Y : Nat → Int32} {rg : Int32} {R : Nat → Prop} {AR : Nat → Int32} (hp : pls n X Y) (h : arI n X Y rg R AR) {j : Nat} (hj : j < n) (e : ¬ (R j ∨ arE n rg j)) : (AR j).toInt.toNat = arT n X Y j := by
  have hb := arT_b hp hj
  rw [(h j hj).2 e, nI_toInt (by omega)]; omega
theorem arI_s {n : Nat} {X Y : Nat → Int32} {rg : Int32} {R : Nat → Prop} {AR : Nat → Int32} {b : Nat} (h : arI n X Y rg R AR) : arI n X Y rg (fun j => R j ∨ j = b) (upd AR b (-1)) := by
  intro j hj
  by_cases e : j = b
  · rw [e, up_at]; exact ⟨fun _ => rfl, fun g => absurd (Or.inl (Or.inr rfl)) g⟩
  · rw [show upd AR b (-1) j = AR j from if_neg e]
    exact ⟨fun g => (h j hj).1 (g.elim (fun g => g.elim Or.inl (fun g => absurd g e)) Or.inr), fun g => (h j hj).2 (fun q => g (q.elim (fun q => Or.inl (Or.inl q)) Or.inr))⟩
/-- which corners may go: no end, small enough, bare and lawful -/
def goK (ft : Nat) (st tn kd mn cx cy : Nat → Int32) (f0 n : Nat) (X Y : Nat → Int32) (rg lim : Int32) (k : Nat) : Prop :=
  ¬ arE n rg k ∧ ((arT n X Y k : Nat) : Int) ≤ lim.toInt ∧ bareK ft st tn kd mn cx cy f0 (X k).toInt (Y k).toInt ∧ alC ft st tn kd mn cx cy f0 n X Y rg (n - 1) (ctF X k) (ctF Y k) rg k
theorem go_no {ft : Nat} {st tn kd mn cx cy : Nat → Int32} {f0 n : Nat} {X Y : Nat → Int32} {rg lim : Int32} {R : Nat → Prop} {AR : Nat → Int32} {z : Int32} (hp : pls n X Y) (hn : n ≤ 40) (h : arI n X Y rg R AR) (hR : ∀ j, j < n → R j → ¬ goK ft st tn kd mn cx cy f0 n X Y rg lim j)
    (hb : bstS (fun k => (AR k).toInt.toNat) (fun k => ¬ (0 ≤ (AR k).toInt ∧ (AR k).toInt ≤ lim.toInt)) n z) (hz : z.toInt = -1) : bstS (arT n X Y) (fun k => ¬ goK ft st tn kd mn cx cy f0 n X Y rg lim k) n (-1) := by
  refine Or.inl ⟨rfl, fun j hj g => ?_⟩
  have a := bst_no hb hz (by omega) j hj
  exact a ((arI_f hp h hj).mpr ⟨fun q => hR j hj q g, g.1, g.2.1⟩)
theorem go_all {ft : Nat} {st tn kd mn cx cy : Nat → Int32} {f0 n : Nat} {X Y : Nat → Int32} {rg lim : Int32} {R : Nat → Prop} (hR : ∀ j, j < n → R j → ¬ goK ft st tn kd mn cx cy f0 n X Y rg lim j) (hc : n ≤ cntP R n) : bstS (arT n X Y) (fun k => ¬ goK ft st tn kd mn cx cy f0 n X Y rg lim k) n (-1) :=
  Or.inl ⟨rfl, fun j hj => hR j hj (cntP_all hc j hj)⟩
theorem go_yes {ft : Nat} {st tn kd mn cx cy : Nat → Int32} {f0 n b : Nat} {X Y : Nat → Int32} {rg lim : Int32} {R : Nat → Prop} {AR : Nat → Int32} (hp : pls n X Y) (h : arI n X Y rg R AR) (hR : ∀ j, j < n → R j → ¬ goK ft st tn kd mn cx cy f0 n X Y rg lim j)
    (hb : b < n) (hF : ¬ R b ∧ ¬ arE n rg b ∧ ((arT n X Y b : Nat) : Int) ≤ lim.toInt) (hm : ∀ j, j < n → ¬ ¬ (0 ≤ (AR j).toInt ∧ (AR j).toInt ≤ lim.toInt) → (AR b).toInt.toNat < (AR j).toInt.toNat ∨ ((AR b).toInt.toNat = (AR j).toInt.toNat ∧ b ≤ j))
    (h1 : bareK ft st tn kd mn cx cy f0 (X b).toInt (Y b).toInt) (h2 : alC ft st tn kd mn cx cy f0 n X Y rg (n - 1) (ctF X b) (ctF Y b) rg b) : bstS (arT n X Y) (fun k => ¬ goK ft st tn kd mn cx cy f0 n X Y rg lim k) n (nI b) := by
  refine Or.inr ⟨b, rfl, hb, fun q => q ⟨hF.2.1, hF.2.2, h1, h2⟩, fun j hj g => ?_⟩
  have g := Classical.not_not.mp g
  have hj2 : ¬ R j := fun q => hR j hj q g
  have m := hm j hj (fun q => q ((arI_f hp h hj).mpr ⟨hj2, g.1, g.2.1⟩))
  rw [arI_t hp h hb (fun q => q.elim hF.1 hF.2.1), arI_t hp h hj (fun q => q.elim hj2 g.1)] at m
  exact m
end
section
set_option maxHeartbeats 4000000 in
set_option maxRecDepth 100000 in
theorem k_Law_cornerThatGoes_3 (l : Launch) (dC : Nat → ClassId) (dI : Nat → Nat → Nat) (cI cZ cF : ClassId) (sz : Nat) (lw : Nat) (dr : Nat) (tg : Nat) (wy : Nat) (br : Nat) (bo : Nat) (aa : Nat) (tx : Nat) (ty : Nat) (nt : Nat) (TX : Nat → Int32) (TY : Nat → Int32) (rt : Int32) (wx : Nat) (wz : Nat) (nw : Nat) (WX : Nat → Int32) (WY : Nat → Int32) (rw : Int32) (dx : Nat) (dy : Nat) (nd : Nat) (cd : Nat) (P : Nat → Int32) (Q : Nat → Int32) (rd : Int32) (b1 : Int32) (b2 : Int32) (b3 : Int32) (b4 : Int32) (b5 : Int32) (b6 : Int32) (b7 : Int32) (b8 : Int32) (AR : Nat → Int32) (sh : Nat) (fa : Nat) (ft : Nat) (FA : Nat → Option Nat) (fe : Nat) (lo : Nat) (rk9 : Int32) (wd9 : Int32) (tw9 : Int32) (pa9 : Int32) (pb9 : Int32) (lk : Nat) (kd9 : Int32) (st9 : Int32) (gb9 : Int32) (jt9 : Int32) (we9 : Int32) (r : Nat) (rx : Nat) (ry : Nat) (n : Nat) (cap : Nat) (X : Nat → Int32) (Y : Nat → Int32) (rg : Int32) (f0 : Nat) (fm9 : Value) (L : List Nat) (f : Nat → va_E) (kd : Nat → Int32) (st : Nat → Int32) (tn : Nat → Int32) (mn : Nat → Int32) (cx : Nat → Int32) (cy : Nat → Int32) (lim : Int32) (h200 : ft ≤ 200) (hf0 : f0 < ft) (hFA : FA f0 = some fe) (hs1 : st9.toInt = 1) (hvw : ∀ q, q < ft → q ≠ f0 → vwO cI L f FA kd st tn mn cx cy q) (hwf : ∀ q, lvF ft st tn q → wfM mn cx cy q) (hkn : okN ft st tn kd mn) (hn : n ≤ cap) (hcap : cap ≤ 1000) (hp : pls n X Y) (hrg : rg = 0 ∨ rg = 1) (hn2 : 2 ≤ n ∧ n ≤ 40) (hcd : n ≤ cd ∧ cd ≤ 1000) (h3 : ¬ rg.toInt = 0 ∧ n ≤ 3) : Met l yX4_cornerThatGoes (.code yX4_cornerThatGoes cX4_cornerThatGoes 7 (some .int) :: ws0) ({ frames := 0, cells := 0, slots := 0, locals := 0 } : Room) (va_Pc [.ref lw, .ref sh, .ref fe, .int lim] (zPre (dC, dI) classes (zTy cI cZ cF) ([(oc3 lw (.ref dr) (.ref tg) (.ref wy) (.ref br) (.ref bo) (.ref aa)), (oc6 tg (.ref tx) (.ref ty) (nI nt) rt), (oa tx cI 3 TX), (oa ty cI 3 TY), (oc6 wy (.ref wx) (.ref wz) (nI nw) rw), (oa wx cI 2 WX), (oa wz cI 2 WY), (oc6 dr (.ref dx) (.ref dy) (nI nd) rd), (oa dx cI cd P), (oa dy cI cd Q), (oc0 br b1 b2 b3 b4), (oc0 bo b5 b6 b7 b8), (oa aa cI 40 AR), (oc7 sh (.ref fa) (nI ft)), (oq fa cF 200 FA), (oc1 fe rk9 wd9 tw9 pa9 pb9 (.ref lo) (.ref lk) fm9), (oc4 lk kd9 st9 (.ref r) gb9 jt9 we9), (oc6 r (.ref rx) (.ref ry) (nI n) rg), (oa rx cI cap X), (oa ry cI cap Y)] ++ va_pl L f) sz zXN)) (zQ (some (.int (-1))) (fun t => va_P (dC, dI) classes ([(oc3 lw (.ref dr) (.ref tg) (.ref wy) (.ref br) (.ref bo) (.ref aa)), (oc6 tg (.ref tx) (.ref ty) (nI nt) rt), (oa tx cI 3 TX), (oa ty cI 3 TY), (oc6 wy (.ref wx) (.ref wz) (nI nw) rw), (oa wx cI 2 WX), (oa wz cI 2 WY), (oc6 dr (.ref dx) (.ref dy) (nI nd) rd), (oa dx cI cd P), (oa dy cI cd Q), (oc0 br b1 b2 b3 b4), (oc0 bo b5 b6 b7 b8), (oa aa cI 40 AR), (oc7 sh (.ref fa) (nI ft)), (oq fa cF 200 FA), (oc1 fe rk9 wd9 tw9 pa9 pb9 (.ref lo) (.ref lk) fm9), (oc4 lk kd9 st9 (.ref r) gb9 jt9 we9), (oc6 r (.ref rx) (.ref ry) (nI n) rg), (oa rx cI cap X), (oa ry cI cap Y)] ++ va_pl L f) t.heap ∧ va_D (va_A ([(oc3 lw (.ref dr) (.ref tg) (.ref wy) (.ref br) (.ref bo) (.ref aa)), (oc6 tg (.ref tx) (.ref ty) (nI nt) rt), (oa tx cI 3 TX), (oa ty cI 3 TY), (oc6 wy (.ref wx) (.ref wz) (nI nw) rw), (oa wx cI 2 WX), (oa wz cI 2 WY), (oc6 dr (.ref dx) (.ref dy) (nI nd) rd), (oa dx cI cd P), (oa dy cI cd Q), (oc0 br b1 b2 b3 b4), (oc0 bo b5 b6 b7 b8), (oa aa cI 40 AR), (oc7 sh (.ref fa) (nI ft)), (oq fa cF 200 FA), (oc1 fe rk9 wd9 tw9 pa9 pb9 (.ref lo) (.ref lk) fm9), (oc4 lk kd9 st9 (.ref r) gb9 jt9 we9), (oc6 r (.ref rx) (.ref ry) (nI n) rg), (oa rx cI cap X), (oa ry cI cap Y)] ++ va_pl L f) sz) ([(oc3 lw (.ref dr) (.ref tg) (.ref wy) (.ref br) (.ref bo) (.ref aa)), (oc6 tg (.ref tx) (.ref ty) (nI nt) rt), (oa tx cI 3 TX), (oa ty cI 3 TY), (oc6 wy (.ref wx) (.ref wz) (nI nw) rw), (oa wx cI 2 WX), (oa wz cI 2 WY), (oc6 dr (.ref dx) (.ref dy) (nI nd) rd), (oa dx cI cd P), (oa dy cI cd Q), (oc0 br b1 b2 b3 b4), (oc0 bo b5 b6 b7 b8), (oa aa cI 40 AR), (oc7 sh (.ref fa) (nI ft)), (oq fa cF 200 FA), (oc1 fe rk9 wd9 tw9 pa9 pb9 (.ref lo) (.ref lk) fm9), (oc4 lk kd9 st9 (.ref r) gb9 jt9 we9), (oc6 r (.ref rx) (.ref ry) (nI n) rg), (oa rx cI cap X), (oa ry cI cap Y)] ++ va_pl L f)) (va_A ([(oc3 lw (.ref dr) (.ref tg) (.ref wy) (.ref br) (.ref bo) (.ref aa)), (oc6 tg (.ref tx) (.ref ty) (nI nt) rt), (oa tx cI 3 TX), (oa ty cI 3 TY), (oc6 wy (.ref wx) (.ref wz) (nI nw) rw), (oa wx cI 2 WX), (oa wz cI 2 WY), (oc6 dr (.ref dx) (.ref dy) (nI nd) rd), (oa dx cI cd P), (oa dy cI cd Q), (oc0 br b1 b2 b3 b4), (oc0 bo b5 b6 b7 b8), (oa aa cI 40 AR), (oc7 sh (.ref fa) (nI ft)), (oq fa cF 200 FA), (oc1 fe rk9 wd9 tw9 pa9 pb9 (.ref lo) (.ref lk) fm9), (oc4 lk kd9 st9 (.ref r) gb9 jt9 we9), (oc6 r (.ref rx) (.ref ry) (nI n) rg), (oa rx cI cap X), (oa ry cI cap Y)] ++ va_pl L f) sz)) 0 0 (va_A ([(oc3 lw (.ref dr) (.ref tg) (.ref wy) (.ref br) (.ref bo) (.ref aa)), (oc6 tg (.ref tx) (.ref ty) (nI nt) rt), (oa tx cI 3 TX), (oa ty cI 3 TY), (oc6 wy (.ref wx) (.ref wz) (nI nw) rw), (oa wx cI 2 WX), (oa wz cI 2 WY), (oc6 dr (.ref dx) (.ref dy) (nI nd) rd), (oa dx cI cd P), (oa dy cI cd Q), (oc0 br b1 b2 b3 b4), (oc0 bo b5 b6 b7 b8), (oa aa cI 40 AR), (oc7 sh (.ref fa) (nI ft)), (oq fa cF 200 FA), (oc1 fe rk9 wd9 tw9 pa9 pb9 (.ref lo) (.ref lk) fm9), (oc4 lk kd9 st9 (.ref r) gb9 jt9 we9), (oc6 r (.ref rx) (.ref ry) (nI n) rg), (oa rx cI cap X), (oa ry cI cap Y)] ++ va_pl L f) sz) := by
  refine Met.ofW (cc := cX4_cornerThatGoes) (maxL := 7) (ret := (some .int)) rfl rfl ?_
  intro p e s m args below meth c s₁ B hml hv
  obtain ⟨rfl, hsz, hP, hK, hD0, hXN⟩ := hv
  have hx := B.exec
  have hb := B.bytes
  have hr := B.returns
  have hts0 := atoms_spec (ws := .code yX4_cornerThatGoes cX4_cornerThatGoes 7 (some .int) :: ws0) B.pre
  have hts : ∀ w9 ∈ ws0, w9.before ([.ref lw, .ref sh, .ref fe, .int lim] : List Value).toArray s = true := fun w9 h => hts0 w9 (List.mem_cons_of_mem _ h)
  have hown : s.vm.findClass "ScaleShop$Law" = some m.cls := findClass_of_methodNamed B.named
  have hlocks := B.notSynchronized
  subst hsz
  have hD := hD0.self (sz := s.heap.size)
  clear hD0
  generalize hAe : va_A ([(oc3 lw (.ref dr) (.ref tg) (.ref wy) (.ref br) (.ref bo) (.ref aa)), (oc6 tg (.ref tx) (.ref ty) (nI nt) rt), (oa tx cI 3 TX), (oa ty cI 3 TY), (oc6 wy (.ref wx) (.ref wz) (nI nw) rw), (oa wx cI 2 WX), (oa wz cI 2 WY), (oc6 dr (.ref dx) (.ref dy) (nI nd) rd), (oa dx cI cd P), (oa dy cI cd Q), (oc0 br b1 b2 b3 b4), (oc0 bo b5 b6 b7 b8), (oa aa cI 40 AR), (oc7 sh (.ref fa) (nI ft)), (oq fa cF 200 FA), (oc1 fe rk9 wd9 tw9 pa9 pb9 (.ref lo) (.ref lk) fm9), (oc4 lk kd9 st9 (.ref r) gb9 jt9 we9), (oc6 r (.ref rx) (.ref ry) (nI n) rg), (oa rx cI cap X), (oa ry cI cap Y)] ++ va_pl L f) s.heap.size = A at hD ⊢
  have hA : ∀ q : Nat, s.heap.size ≤ q → A q := fun q h => by rw [← hAe]; exact Or.inr h
  clear hAe
  have hS : va_S A s.heap s.heap [] := va_S.rf
  have hP : va_P (dC, dI) classes ([(oc3 lw (.ref dr) (.ref tg) (.ref wy) (.ref br) (.ref bo) (.ref aa)), (oc6 tg (.ref tx) (.ref ty) (nI nt) rt), (oa tx cI 3 TX), (oa ty cI 3 TY), (oc6 wy (.ref wx) (.ref wz) (nI nw) rw), (oa wx cI 2 WX), (oa wz cI 2 WY), (oc6 dr (.ref dx) (.ref dy) (nI nd) rd), (oa dx cI cd P), (oa dy cI cd Q), (oc0 br b1 b2 b3 b4), (oc0 bo b5 b6 b7 b8), (oa aa cI 40 AR), (oc7 sh (.ref fa) (nI ft)), (oq fa cF 200 FA), (oc1 fe rk9 wd9 tw9 pa9 pb9 (.ref lo) (.ref lk) fm9), (oc4 lk kd9 st9 (.ref r) gb9 jt9 we9), (oc6 r (.ref rx) (.ref ry) (nI n) rg), (oa rx cI cap X), (oa ry cI cap Y)] ++ va_pl L f) s.heap := hP
  obtain ⟨Q9, hQ9⟩ : ∃ Q9 : State → Prop, Q9 = MQ below (zQ (some (.int (-1))) (fun t => va_P (dC, dI) classes ([(oc3 lw (.ref dr) (.ref tg) (.ref wy) (.ref br) (.ref bo) (.ref aa)), (oc6 tg (.ref tx) (.ref ty) (nI nt) rt), (oa tx cI 3 TX), (oa ty cI 3 TY), (oc6 wy (.ref wx) (.ref wz) (nI nw) rw), (oa wx cI 2 WX), (oa wz cI 2 WY), (oc6 dr (.ref dx) (.ref dy) (nI nd) rd), (oa dx cI cd P), (oa dy cI cd Q), (oc0 br b1 b2 b3 b4), (oc0 bo b5 b6 b7 b8), (oa aa cI 40 AR), (oc7 sh (.ref fa) (nI ft)), (oq fa cF 200 FA), (oc1 fe rk9 wd9 tw9 pa9 pb9 (.ref lo) (.ref lk) fm9), (oc4 lk kd9 st9 (.ref r) gb9 jt9 we9), (oc6 r (.ref rx) (.ref ry) (nI n) rg), (oa rx cI cap X), (oa ry cI cap Y)] ++ va_pl L f) t.heap ∧ va_D A ([(oc3 lw (.ref dr) (.ref tg) (.ref wy) (.ref br) (.ref bo) (.ref aa)), (oc6 tg (.ref tx) (.ref ty) (nI nt) rt), (oa tx cI 3 TX), (oa ty cI 3 TY), (oc6 wy (.ref wx) (.ref wz) (nI nw) rw), (oa wx cI 2 WX), (oa wz cI 2 WY), (oc6 dr (.ref dx) (.ref dy) (nI nd) rd), (oa dx cI cd P), (oa dy cI cd Q), (oc0 br b1 b2 b3 b4), (oc0 bo b5 b6 b7 b8), (oa aa cI 40 AR), (oc7 sh (.ref fa) (nI ft)), (oq fa cF 200 FA), (oc1 fe rk9 wd9 tw9 pa9 pb9 (.ref lo) (.ref lk) fm9), (oc4 lk kd9 st9 (.ref r) gb9 jt9 we9), (oc6 r (.ref rx) (.ref ry) (nI n) rg), (oa rx cI cap X), (oa ry cI cap Y)] ++ va_pl L f)) A) ([.ref lw, .ref sh, .ref fe, .int lim] : List Value).toArray s 0 0 A := ⟨_, rfl⟩
  rw [← hQ9]
  have hl := lv_entry ([.ref lw, .ref sh, .ref fe, .int lim]) (n := 7) (Nat.le_of_ble_eq_true rfl)
  rw [lg_entry_eq]
  generalize (lg_sl ([.ref lw, .ref sh, .ref fe, .int lim]) ++ List.replicate (7 - (lg_sl ([.ref lw, .ref sh, .ref fe, .int lim])).length) Slot.unset).toArray = ls at hl ⊢
  have hl : lv_has ls 7 [(0, .ref lw), (1, .ref sh), (2, .ref fe), (3, .int lim)] := hl
  refine lv_aload_n hx hb dX4_cornerThatGoes_0 rfl (lv_at hl 2 rfl) ?_
  refine va_get (D := (dC, dI)) (ci := 1) (v := .ref lk) (C := RX2) (T := TX2) (N := 8) hx hb hts inX2 hown hK hP 15 rfl rfl 6 (Nat.le_of_ble_eq_true rfl) (hts _ mw_430) (fun _ h9 => h9) rfl dX4_cornerThatGoes_1 ?_
  refine va_get (D := (dC, dI)) (ci := 4) (v := .ref r) (C := RX5) (T := TX5) (N := 6) hx hb hts inX5 hown hK hP 16 rfl rfl 2 (Nat.le_of_ble_eq_true rfl) (hts _ mw_389) (fun _ h9 => h9) rfl dX4_cornerThatGoes_4 ?_
  refine lv_astore (lv' := [(4, .ref r), (0, .ref lw), (1, .ref sh), (2, .ref fe), (3, .int lim)]) hx hb dX4_cornerThatGoes_7 hl (Nat.le_of_ble_eq_true rfl) rfl (fun ls hl => ?_)
  refine lv_aload hx hb dX4_cornerThatGoes_9 (lv_at hl 0 rfl) ?_
  refine lv_ifnull hx hb dX4_cornerThatGoes_11 ?_
  refine lv_aload hx hb dX4_cornerThatGoes_14 (lv_at hl 0 rfl) ?_
  refine va_get (D := (dC, dI)) (ci := 6) (v := .int rg) (C := RX7) (T := TX7) (N := 4) hx hb hts inX7 hown hK hP 17 rfl rfl 3 (Nat.le_of_ble_eq_true rfl) (hts _ mw_184) (fun _ h9 => h9) rfl dX4_cornerThatGoes_16 ?_
  refine lv_if_eq (tgt := 33) hx hb dX4_cornerThatGoes_19 rfl (fun c_1 => ?_) (fun c_1 => ?_)
  · have c_1 : rg.toInt = 0 := zc_eq rfl rfl c_1
    exfalso; omega
  · have c_1 : ¬ rg.toInt = 0 := zc_ne rfl rfl c_1
    refine lv_aload hx hb dX4_cornerThatGoes_22 (lv_at hl 0 rfl) ?_
    refine va_get (D := (dC, dI)) (ci := 6) (v := .int (nI n)) (C := RX7) (T := TX7) (N := 4) hx hb hts inX7 hown hK hP 17 rfl rfl 2 (Nat.le_of_ble_eq_true rfl) (hts _ mw_176) (fun _ h9 => h9) rfl dX4_cornerThatGoes_24 ?_
    refine lv_iconst (v := 3) hx hb dX4_cornerThatGoes_27 rfl ?_
    have b9_3 : n < 2147483648 := by omega
    refine lv_icmp_gt (tgt := 33) hx hb dX4_cornerThatGoes_28 rfl (fun c_2 => ?_) (fun c_2 => ?_)
    · have c_2 : 3 < ((n : Nat) : Int) := zc_lt rfl (nI_toInt b9_3) c_2
      exfalso; omega
    · have c_2 : ((n : Nat) : Int) ≤ 3 := zc_nlt rfl (nI_toInt b9_3) c_2
      refine lv_iconst (v := (-1)) hx hb dX4_cornerThatGoes_31 rfl ?_
      obtain ⟨hP9, hD9⟩ := zq_part (cx := [(oc3 lw (.ref dr) (.ref tg) (.ref wy) (.ref br) (.ref bo) (.ref aa)), (oc6 tg (.ref tx) (.ref ty) (nI nt) rt), (oa tx cI 3 TX), (oa ty cI 3 TY), (oc6 wy (.ref wx) (.ref wz) (nI nw) rw), (oa wx cI 2 WX), (oa wz cI 2 WY), (oc6 dr (.ref dx) (.ref dy) (nI nd) rd), (oa dx cI cd P), (oa dy cI cd Q), (oc0 br b1 b2 b3 b4), (oc0 bo b5 b6 b7 b8), (oa aa cI 40 AR), (oc7 sh (.ref fa) (nI ft)), (oq fa cF 200 FA), (oc1 fe rk9 wd9 tw9 pa9 pb9 (.ref lo) (.ref lk) fm9), (oc4 lk kd9 st9 (.ref r) gb9 jt9 we9), (oc6 r (.ref rx) (.ref ry) (nI n) rg), (oa rx cI cap X), (oa ry cI cap Y)]) hP hD [0, 1, 2, 3, 4, 5, 6, 7, 8, 9, 10, 11, 12, 13, 14, 15, 16, 17, 18, 19] rfl rfl
      rw [hQ9]
      exact W.iret (v := (-1)) hx hb hr (fun t ht hW => ⟨⟨rfl, by rw [ht]; exact hP9, hD9⟩, hS.F ht⟩) hS.2.2 dX4_cornerThatGoes_32
set_option maxHeartbeats 4000000 in
set_option maxRecDepth 100000 in
theorem k_Law_cornerThatGoes (l : Launch) (dC : Nat → ClassId) (dI : Nat → Nat → Nat) (cI cZ cF : ClassId) (sz : Nat) (lw : Nat) (dr : Nat) (tg : Nat) (wy : Nat) (br : Nat) (bo : Nat) (aa : Nat) (tx : Nat) (ty : Nat) (nt : Nat) (TX : Nat → Int32) (TY : Nat → Int32) (rt : Int32) (wx : Nat) (wz : Nat) (nw : Nat) (WX : Nat → Int32) (WY : Nat → Int32) (rw : Int32) (dx : Nat) (dy : Nat) (nd : Nat) (cd : Nat) (P : Nat → Int32) (Q : Nat → Int32) (rd : Int32) (b1 : Int32) (b2 : Int32) (b3 : Int32) (b4 : Int32) (b5 : Int32) (b6 : Int32) (b7 : Int32) (b8 : Int32) (AR : Nat → Int32) (sh : Nat) (fa : Nat) (ft : Nat) (FA : Nat → Option Nat) (fe : Nat) (lo : Nat) (rk9 : Int32) (wd9 : Int32) (tw9 : Int32) (pa9 : Int32) (pb9 : Int32) (lk : Nat) (kd9 : Int32) (st9 : Int32) (gb9 : Int32) (jt9 : Int32) (we9 : Int32) (r : Nat) (rx : Nat) (ry : Nat) (n : Nat) (cap : Nat) (X : Nat → Int32) (Y : Nat → Int32) (rg : Int32) (f0 : Nat) (fm9 : Value) (L : List Nat) (f : Nat → va_E) (kd : Nat → Int32) (st : Nat → Int32) (tn : Nat → Int32) (mn : Nat → Int32) (cx : Nat → Int32) (cy : Nat → Int32) (lim : Int32) (h200 : ft ≤ 200) (hf0 : f0 < ft) (hFA : FA f0 = some fe) (hs1 : st9.toInt = 1) (hvw : ∀ q, q < ft → q ≠ f0 → vwO cI L f FA kd st tn mn cx cy q) (hwf : ∀ q, lvF ft st tn q → wfM mn cx cy q) (hkn : okN ft st tn kd mn) (hn : n ≤ cap) (hcap : cap ≤ 1000) (hp : pls n X Y) (hrg : rg = 0 ∨ rg = 1) (hn2 : 2 ≤ n ∧ n ≤ 40) (hcd : n ≤ cd ∧ cd ≤ 1000) (h3 : rg.toInt = 0 ∨ 4 ≤ n) : Met l yX4_cornerThatGoes (.code yX4_cornerThatGoes cX4_cornerThatGoes 7 (some .int) :: ws0) ({ frames := 5, cells := 0, slots := 0, locals := 131 } : Room) (va_Pc [.ref lw, .ref sh, .ref fe, .int lim] (zPre (dC, dI) classes (zTy cI cZ cF) ([(oc3 lw (.ref dr) (.ref tg) (.ref wy) (.ref br) (.ref bo) (.ref aa)), (oc6 tg (.ref tx) (.ref ty) (nI nt) rt), (oa tx cI 3 TX), (oa ty cI 3 TY), (oc6 wy (.ref wx) (.ref wz) (nI nw) rw), (oa wx cI 2 WX), (oa wz cI 2 WY), (oc6 dr (.ref dx) (.ref dy) (nI nd) rd), (oa dx cI cd P), (oa dy cI cd Q), (oc0 br b1 b2 b3 b4), (oc0 bo b5 b6 b7 b8), (oa aa cI 40 AR), (oc7 sh (.ref fa) (nI ft)), (oq fa cF 200 FA), (oc1 fe rk9 wd9 tw9 pa9 pb9 (.ref lo) (.ref lk) fm9), (oc4 lk kd9 st9 (.ref r) gb9 jt9 we9), (oc6 r (.ref rx) (.ref ry) (nI n) rg), (oa rx cI cap X), (oa ry cI cap Y)] ++ va_pl L f) sz zXN)) (zQe (fun v9 t => ∃ (zb : Int32), ∃ (nt1 : Nat), ∃ (TX1 : Nat → Int32), ∃ (TY1 : Nat → Int32), ∃ (rt1 : Int32), ∃ (nw1 : Nat), ∃ (WX1 : Nat → Int32), ∃ (WY1 : Nat → Int32), ∃ (rw1 : Int32), ∃ (nd1 : Nat), ∃ (P1 : Nat → Int32), ∃ (Q1 : Nat → Int32), ∃ (rd1 : Int32), ∃ (d5 : Int32), ∃ (d6 : Int32), ∃ (d7 : Int32), ∃ (d8 : Int32), ∃ (e5 : Int32), ∃ (e6 : Int32), ∃ (e7 : Int32), ∃ (e8 : Int32), ∃ (AR1 : Nat → Int32), v9 = (some (.int zb)) ∧ (bstS (arT n X Y) (fun k => ¬ goK ft st tn kd mn cx cy f0 n X Y rg lim k) n zb) ∧ va_P (dC, dI) classes ([(oc3 lw (.ref dr) (.ref tg) (.ref wy) (.ref br) (.ref bo) (.ref aa)), (oc6 tg (.ref tx) (.ref ty) (nI nt1) rt1), (oa tx cI 3 TX1), (oa ty cI 3 TY1), (oc6 wy (.ref wx) (.ref wz) (nI nw1) rw1), (oa wx cI 2 WX1), (oa wz cI 2 WY1), (oc6 dr (.ref dx) (.ref dy) (nI nd1) rd1), (oa dx cI cd P1), (oa dy cI cd Q1), (oc0 br d5 d6 d7 d8), (oc0 bo e5 e6 e7 e8), (oa aa cI 40 AR1), (oc7 sh (.ref fa) (nI ft)), (oq fa cF 200 FA), (oc1 fe rk9 wd9 tw9 pa9 pb9 (.ref lo) (.ref lk) fm9), (oc4 lk kd9 st9 (.ref r) gb9 jt9 we9), (oc6 r (.ref rx) (.ref ry) (nI n) rg), (oa rx cI cap X), (oa ry cI cap Y)] ++ va_pl L f) t.heap ∧ va_D (va_A ([(oc3 lw (.ref dr) (.ref tg) (.ref wy) (.ref br) (.ref bo) (.ref aa)), (oc6 tg (.ref tx) (.ref ty) (nI nt) rt), (oa tx cI 3 TX), (oa ty cI 3 TY), (oc6 wy (.ref wx) (.ref wz) (nI nw) rw), (oa wx cI 2 WX), (oa wz cI 2 WY), (oc6 dr (.ref dx) (.ref dy) (nI nd) rd), (oa dx cI cd P), (oa dy cI cd Q), (oc0 br b1 b2 b3 b4), (oc0 bo b5 b6 b7 b8), (oa aa cI 40 AR), (oc7 sh (.ref fa) (nI ft)), (oq fa cF 200 FA), (oc1 fe rk9 wd9 tw9 pa9 pb9 (.ref lo) (.ref lk) fm9), (oc4 lk kd9 st9 (.ref r) gb9 jt9 we9), (oc6 r (.ref rx) (.ref ry) (nI n) rg), (oa rx cI cap X), (oa ry cI cap Y)] ++ va_pl L f) sz) ([(oc3 lw (.ref dr) (.ref tg) (.ref wy) (.ref br) (.ref bo) (.ref aa)), (oc6 tg (.ref tx) (.ref ty) (nI nt1) rt1), (oa tx cI 3 TX1), (oa ty cI 3 TY1), (oc6 wy (.ref wx) (.ref wz) (nI nw1) rw1), (oa wx cI 2 WX1), (oa wz cI 2 WY1), (oc6 dr (.ref dx) (.ref dy) (nI nd1) rd1), (oa dx cI cd P1), (oa dy cI cd Q1), (oc0 br d5 d6 d7 d8), (oc0 bo e5 e6 e7 e8), (oa aa cI 40 AR1), (oc7 sh (.ref fa) (nI ft)), (oq fa cF 200 FA), (oc1 fe rk9 wd9 tw9 pa9 pb9 (.ref lo) (.ref lk) fm9), (oc4 lk kd9 st9 (.ref r) gb9 jt9 we9), (oc6 r (.ref rx) (.ref ry) (nI n) rg), (oa rx cI cap X), (oa ry cI cap Y)] ++ va_pl L f)) (va_A ([(oc3 lw (.ref dr) (.ref tg) (.ref wy) (.ref br) (.ref bo) (.ref aa)), (oc6 tg (.ref tx) (.ref ty) (nI nt) rt), (oa tx cI 3 TX), (oa ty cI 3 TY), (oc6 wy (.ref wx) (.ref wz) (nI nw) rw), (oa wx cI 2 WX), (oa wz cI 2 WY), (oc6 dr (.ref dx) (.ref dy) (nI nd) rd), (oa dx cI cd P), (oa dy cI cd Q), (oc0 br b1 b2 b3 b4), (oc0 bo b5 b6 b7 b8), (oa aa cI 40 AR), (oc7 sh (.ref fa) (nI ft)), (oq fa cF 200 FA), (oc1 fe rk9 wd9 tw9 pa9 pb9 (.ref lo) (.ref lk) fm9), (oc4 lk kd9 st9 (.ref r) gb9 jt9 we9), (oc6 r (.ref rx) (.ref ry) (nI n) rg), (oa rx cI cap X), (oa ry cI cap Y)] ++ va_pl L f) sz)) 0 0 (va_A ([(oc3 lw (.ref dr) (.ref tg) (.ref wy) (.ref br) (.ref bo) (.ref aa)), (oc6 tg (.ref tx) (.ref ty) (nI nt) rt), (oa tx cI 3 TX), (oa ty cI 3 TY), (oc6 wy (.ref wx) (.ref wz) (nI nw) rw), (oa wx cI 2 WX), (oa wz cI 2 WY), (oc6 dr (.ref dx) (.ref dy) (nI nd) rd), (oa dx cI cd P), (oa dy cI cd Q), (oc0 br b1 b2 b3 b4), (oc0 bo b5 b6 b7 b8), (oa aa cI 40 AR), (oc7 sh (.ref fa) (nI ft)), (oq fa cF 200 FA), (oc1 fe rk9 wd9 tw9 pa9 pb9 (.ref lo) (.ref lk) fm9), (oc4 lk kd9 st9 (.ref r) gb9 jt9 we9), (oc6 r (.ref rx) (.ref ry) (nI n) rg), (oa rx cI cap X), (oa ry cI cap Y)] ++ va_pl L f) sz) := by
  refine Met.ofW (cc := cX4_cornerThatGoes) (maxL := 7) (ret := (some .int)) rfl rfl ?_
  intro p e s m args below meth c s₁ B hml hv
  obtain ⟨rfl, hsz, hP, hK, hD0, hXN⟩ := hv
  have hx := B.exec
  have hb := B.bytes
  have hr := B.returns
  have hts0 := atoms_spec (ws := .code yX4_cornerThatGoes cX4_cornerThatGoes 7 (some .int) :: ws0) B.pre
  have hts : ∀ w9 ∈ ws0, w9.before ([.ref lw, .ref sh, .ref fe, .int lim] : List Value).toArray s = true := fun w9 h => hts0 w9 (List.mem_cons_of_mem _ h)
  have hown : s.vm.findClass "ScaleShop$Law" = some m.cls := findClass_of_methodNamed B.named
  have hlocks := B.notSynchronized
  subst hsz
  have hD := hD0.self (sz := s.heap.size)
  clear hD0
  generalize hAe : va_A ([(oc3 lw (.ref dr) (.ref tg) (.ref wy) (.ref br) (.ref bo) (.ref aa)), (oc6 tg (.ref tx) (.ref ty) (nI nt) rt), (oa tx cI 3 TX), (oa ty cI 3 TY), (oc6 wy (.ref wx) (.ref wz) (nI nw) rw), (oa wx cI 2 WX), (oa wz cI 2 WY), (oc6 dr (.ref dx) (.ref dy) (nI nd) rd), (oa dx cI cd P), (oa dy cI cd Q), (oc0 br b1 b2 b3 b4), (oc0 bo b5 b6 b7 b8), (oa aa cI 40 AR), (oc7 sh (.ref fa) (nI ft)), (oq fa cF 200 FA), (oc1 fe rk9 wd9 tw9 pa9 pb9 (.ref lo) (.ref lk) fm9), (oc4 lk kd9 st9 (.ref r) gb9 jt9 we9), (oc6 r (.ref rx) (.ref ry) (nI n) rg), (oa rx cI cap X), (oa ry cI cap Y)] ++ va_pl L f) s.heap.size = A at hD ⊢
  have hA : ∀ q : Nat, s.heap.size ≤ q → A q := fun q h => by rw [← hAe]; exact Or.inr h
  clear hAe
  have hS : va_S A s.heap s.heap [] := va_S.rf
  have hP : va_P (dC, dI) classes ([(oc3 lw (.ref dr) (.ref tg) (.ref wy) (.ref br) (.ref bo) (.ref aa)), (oc6 tg (.ref tx) (.ref ty) (nI nt) rt), (oa tx cI 3 TX), (oa ty cI 3 TY), (oc6 wy (.ref wx) (.ref wz) (nI nw) rw), (oa wx cI 2 WX), (oa wz cI 2 WY), (oc6 dr (.ref dx) (.ref dy) (nI nd) rd), (oa dx cI cd P), (oa dy cI cd Q), (oc0 br b1 b2 b3 b4), (oc0 bo b5 b6 b7 b8), (oa aa cI 40 AR), (oc7 sh (.ref fa) (nI ft)), (oq fa cF 200 FA), (oc1 fe rk9 wd9 tw9 pa9 pb9 (.ref lo) (.ref lk) fm9), (oc4 lk kd9 st9 (.ref r) gb9 jt9 we9), (oc6 r (.ref rx) (.ref ry) (nI n) rg), (oa rx cI cap X), (oa ry cI cap Y)] ++ va_pl L f) s.heap := hP
  obtain ⟨Q9, hQ9⟩ : ∃ Q9 : State → Prop, Q9 = MQ below (zQe (fun v9 t => ∃ (zb : Int32), ∃ (nt1 : Nat), ∃ (TX1 : Nat → Int32), ∃ (TY1 : Nat → Int32), ∃ (rt1 : Int32), ∃ (nw1 : Nat), ∃ (WX1 : Nat → Int32), ∃ (WY1 : Nat → Int32), ∃ (rw1 : Int32), ∃ (nd1 : Nat), ∃ (P1 : Nat → Int32), ∃ (Q1 : Nat → Int32), ∃ (rd1 : Int32), ∃ (d5 : Int32), ∃ (d6 : Int32), ∃ (d7 : Int32), ∃ (d8 : Int32), ∃ (e5 : Int32), ∃ (e6 : Int32), ∃ (e7 : Int32), ∃ (e8 : Int32), ∃ (AR1 : Nat → Int32), v9 = (some (.int zb)) ∧ (bstS (arT n X Y) (fun k => ¬ goK ft st tn kd mn cx cy f0 n X Y rg lim k) n zb) ∧ va_P (dC, dI) classes ([(oc3 lw (.ref dr) (.ref tg) (.ref wy) (.ref br) (.ref bo) (.ref aa)), (oc6 tg (.ref tx) (.ref ty) (nI nt1) rt1), (oa tx cI 3 TX1), (oa ty cI 3 TY1), (oc6 wy (.ref wx) (.ref wz) (nI nw1) rw1), (oa wx cI 2 WX1), (oa wz cI 2 WY1), (oc6 dr (.ref dx) (.ref dy) (nI nd1) rd1), (oa dx cI cd P1), (oa dy cI cd Q1), (oc0 br d5 d6 d7 d8), (oc0 bo e5 e6 e7 e8), (oa aa cI 40 AR1), (oc7 sh (.ref fa) (nI ft)), (oq fa cF 200 FA), (oc1 fe rk9 wd9 tw9 pa9 pb9 (.ref lo) (.ref lk) fm9), (oc4 lk kd9 st9 (.ref r) gb9 jt9 we9), (oc6 r (.ref rx) (.ref ry) (nI n) rg), (oa rx cI cap X), (oa ry cI cap Y)] ++ va_pl L f) t.heap ∧ va_D A ([(oc3 lw (.ref dr) (.ref tg) (.ref wy) (.ref br) (.ref bo) (.ref aa)), (oc6 tg (.ref tx) (.ref ty) (nI nt1) rt1), (oa tx cI 3 TX1), (oa ty cI 3 TY1), (oc6 wy (.ref wx) (.ref wz) (nI nw1) rw1), (oa wx cI 2 WX1), (oa wz cI 2 WY1), (oc6 dr (.ref dx) (.ref dy) (nI nd1) rd1), (oa dx cI cd P1), (oa dy cI cd Q1), (oc0 br d5 d6 d7 d8), (oc0 bo e5 e6 e7 e8), (oa aa cI 40 AR1), (oc7 sh (.ref fa) (nI ft)), (oq fa cF 200 FA), (oc1 fe rk9 wd9 tw9 pa9 pb9 (.ref lo) (.ref lk) fm9), (oc4 lk kd9 st9 (.ref r) gb9 jt9 we9), (oc6 r (.ref rx) (.ref ry) (nI n) rg), (oa rx cI cap X), (oa ry cI cap Y)] ++ va_pl L f)) A) ([.ref lw, .ref sh, .ref fe, .int lim] : List Value).toArray s 0 0 A := ⟨_, rfl⟩
  rw [← hQ9]
  have hl := lv_entry ([.ref lw, .ref sh, .ref fe, .int lim]) (n := 7) (Nat.le_of_ble_eq_true rfl)
  rw [lg_entry_eq]
  generalize (lg_sl ([.ref lw, .ref sh, .ref fe, .int lim]) ++ List.replicate (7 - (lg_sl ([.ref lw, .ref sh, .ref fe, .int lim])).length) Slot.unset).toArray = ls at hl ⊢
  have hl : lv_has ls 7 [(0, .ref lw), (1, .ref sh), (2, .ref fe), (3, .int lim)] := hl
  refine lv_aload_n hx hb dX4_cornerThatGoes_0 rfl (lv_at hl 2 rfl) ?_
  refine va_get (D := (dC, dI)) (ci := 1) (v := .ref lk) (C := RX2) (T := TX2) (N := 8) hx hb hts inX2 hown hK hP 15 rfl rfl 6 (Nat.le_of_ble_eq_true rfl) (hts _ mw_430) (fun _ h9 => h9) rfl dX4_cornerThatGoes_1 ?_
  refine va_get (D := (dC, dI)) (ci := 4) (v := .ref r) (C := RX5) (T := TX5) (N := 6) hx hb hts inX5 hown hK hP 16 rfl rfl 2 (Nat.le_of_ble_eq_true rfl) (hts _ mw_389) (fun _ h9 => h9) rfl dX4_cornerThatGoes_4 ?_
  refine lv_astore (lv' := [(4, .ref r), (0, .ref lw), (1, .ref sh), (2, .ref fe), (3, .int lim)]) hx hb dX4_cornerThatGoes_7 hl (Nat.le_of_ble_eq_true rfl) rfl (fun ls hl => ?_)
  refine lv_aload hx hb dX4_cornerThatGoes_9 (lv_at hl 0 rfl) ?_
  refine lv_ifnull hx hb dX4_cornerThatGoes_11 ?_
  refine lv_aload hx hb dX4_cornerThatGoes_14 (lv_at hl 0 rfl) ?_
  refine va_get (D := (dC, dI)) (ci := 6) (v := .int rg) (C := RX7) (T := TX7) (N := 4) hx hb hts inX7 hown hK hP 17 rfl rfl 3 (Nat.le_of_ble_eq_true rfl) (hts _ mw_184) (fun _ h9 => h9) rfl dX4_cornerThatGoes_16 ?_
  refine lv_if_eq (tgt := 33) hx hb dX4_cornerThatGoes_19 rfl (fun c_1 => ?_) (fun c_1 => ?_)
  · have c_1 : rg.toInt = 0 := zc_eq rfl rfl c_1
    refine lv_iconst (v := 0) hx hb dX4_cornerThatGoes_33 rfl ?_
    refine lv_istore (lv' := [(5, .int 0), (4, .ref r), (0, .ref lw), (1, .ref sh), (2, .ref fe), (3, .int lim)]) hx hb dX4_cornerThatGoes_34 hl (Nat.le_of_ble_eq_true rfl) rfl (fun ls hl => ?_)
    have hl_36 : ∀ (n9 : Nat) (k : Nat) (AR1 : Nat → Int32) (H : Heap) (locs : List Loc) (ls : Array Slot), n - k < n9 → (k ≤ n) → (∀ j, j < k → ((False ∨ arE n rg j) → AR1 j = -1) ∧ (¬ (False ∨ arE n rg j) → AR1 j = nI (arT n X Y j))) → va_P (dC, dI) classes ([(oc3 lw (.ref dr) (.ref tg) (.ref wy) (.ref br) (.ref bo) (.ref aa)), (oc6 tg (.ref tx) (.ref ty) (nI nt) rt), (oa tx cI 3 TX), (oa ty cI 3 TY), (oc6 wy (.ref wx) (.ref wz) (nI nw) rw), (oa wx cI 2 WX), (oa wz cI 2 WY), (oc6 dr (.ref dx) (.ref dy) (nI nd) rd), (oa dx cI cd P), (oa dy cI cd Q), (oc0 br b1 b2 b3 b4), (oc0 bo b5 b6 b7 b8), (oa aa cI 40 AR1), (oc7 sh (.ref fa) (nI ft)), (oq fa cF 200 FA), (oc1 fe rk9 wd9 tw9 pa9 pb9 (.ref lo) (.ref lk) fm9), (oc4 lk kd9 st9 (.ref r) gb9 jt9 we9), (oc6 r (.ref rx) (.ref ry) (nI n) rg), (oa rx cI cap X), (oa ry cI cap Y)] ++ va_pl L f) H → va_D A ([(oc3 lw (.ref dr) (.ref tg) (.ref wy) (.ref br) (.ref bo) (.ref aa)), (oc6 tg (.ref tx) (.ref ty) (nI nt) rt), (oa tx cI 3 TX), (oa ty cI 3 TY), (oc6 wy (.ref wx) (.ref wz) (nI nw) rw), (oa wx cI 2 WX), (oa wz cI 2 WY), (oc6 dr (.ref dx) (.ref dy) (nI nd) rd), (oa dx cI cd P), (oa dy cI cd Q), (oc0 br b1 b2 b3 b4), (oc0 bo b5 b6 b7 b8), (oa aa cI 40 AR1), (oc7 sh (.ref fa) (nI ft)), (oq fa cF 200 FA), (oc1 fe rk9 wd9 tw9 pa9 pb9 (.ref lo) (.ref lk) fm9), (oc4 lk kd9 st9 (.ref r) gb9 jt9 we9), (oc6 r (.ref rx) (.ref ry) (nI n) rg), (oa rx cI cap X), (oa ry cI cap Y)] ++ va_pl L f) → va_S A s.heap H locs → lv_has ls 7 [(5, .int (nI k)), (4, .ref r), (0, .ref lw), (1, .ref sh), (2, .ref fe), (3, .int lim)] → W p l e ((headSpec (.code yX4_cornerThatGoes cX4_cornerThatGoes 7 (some .int) :: ws0) ({ frames := 5, cells := 0, slots := 0, locals := 131 } : Room)).room) s m ([.ref lw, .ref sh, .ref fe, .int lim] : List Value).toArray below meth c H locs 0 0 Q9 (F0 m 36 ls []) := by
      intro n9
      induction n9 with
      | zero => intro k AR1 H locs ls hm; exact absurd hm (Nat.not_lt_zero _)
      | succ n9 ih_36 =>
        intro k AR1 H locs ls hm hk har hP hD hS hl
        refine lv_iload hx hb dX4_cornerThatGoes_36 (lv_at hl 0 rfl) ?_
        refine lv_aload hx hb dX4_cornerThatGoes_38 (lv_at hl 1 rfl) ?_
        refine va_get (D := (dC, dI)) (ci := 6) (v := .int (nI n)) (C := RX7) (T := TX7) (N := 4) hx hb hts inX7 hown hK hP 17 rfl rfl 2 (Nat.le_of_ble_eq_true rfl) (hts _ mw_176) (fun _ h9 => h9) rfl dX4_cornerThatGoes_40 ?_
        have b9_3 : k < 2147483648 := by omega
        have b9_4 : n < 2147483648 := by omega
        refine lv_icmp_ge (tgt := 80) hx hb dX4_cornerThatGoes_43 rfl (fun c_2 => ?_) (fun c_2 => ?_)
        · have c_2 : ((n : Nat) : Int) ≤ ((k : Nat) : Int) := zc_le (nI_toInt b9_4) (nI_toInt b9_3) c_2
          refine lv_iconst (v := 0) hx hb dX4_cornerThatGoes_80 rfl ?_
          refine lv_istore (lv' := [(5, .int 0), (4, .ref r), (0, .ref lw), (1, .ref sh), (2, .ref fe), (3, .int lim)]) hx hb dX4_cornerThatGoes_81 hl (Nat.le_of_ble_eq_true rfl) rfl (fun ls hl => ?_)
          have hl_83 : ∀ (n9 : Nat) (t5 : Nat) (R : Nat → Prop) (AR1 : Nat → Int32) (nt1 : Nat) (TX1 : Nat → Int32) (TY1 : Nat → Int32) (rt1 : Int32) (nw1 : Nat) (WX1 : Nat → Int32) (WY1 : Nat → Int32) (rw1 : Int32) (nd1 : Nat) (P1 : Nat → Int32) (Q1 : Nat → Int32) (rd1 : Int32) (d5 : Int32) (d6 : Int32) (d7 : Int32) (d8 : Int32) (e5 : Int32) (e6 : Int32) (e7 : Int32) (e8 : Int32) (H : Heap) (locs : List Loc) (ls : Array Slot), n - t5 < n9 → (t5 ≤ n) → (arI n X Y rg R AR1) → (∀ j, j < n → R j → ¬ goK ft st tn kd mn cx cy f0 n X Y rg lim j) → (t5 ≤ cntP R n) → va_P (dC, dI) classes ([(oc3 lw (.ref dr) (.ref tg) (.ref wy) (.ref br) (.ref bo) (.ref aa)), (oc6 tg (.ref tx) (.ref ty) (nI nt1) rt1), (oa tx cI 3 TX1), (oa ty cI 3 TY1), (oc6 wy (.ref wx) (.ref wz) (nI nw1) rw1), (oa wx cI 2 WX1), (oa wz cI 2 WY1), (oc6 dr (.ref dx) (.ref dy) (nI nd1) rd1), (oa dx cI cd P1), (oa dy cI cd Q1), (oc0 br d5 d6 d7 d8), (oc0 bo e5 e6 e7 e8), (oa aa cI 40 AR1), (oc7 sh (.ref fa) (nI ft)), (oq fa cF 200 FA), (oc1 fe rk9 wd9 tw9 pa9 pb9 (.ref lo) (.ref lk) fm9), (oc4 lk kd9 st9 (.ref r) gb9 jt9 we9), (oc6 r (.ref rx) (.ref ry) (nI n) rg), (oa rx cI cap X), (oa ry cI cap Y)] ++ va_pl L f) H → va_D A ([(oc3 lw (.ref dr) (.ref tg) (.ref wy) (.ref br) (.ref bo) (.ref aa)), (oc6 tg (.ref tx) (.ref ty) (nI nt1) rt1), (oa tx cI 3 TX1), (oa ty cI 3 TY1), (oc6 wy (.ref wx) (.ref wz) (nI nw1) rw1), (oa wx cI 2 WX1), (oa wz cI 2 WY1), (oc6 dr (.ref dx) (.ref dy) (nI nd1) rd1), (oa dx cI cd P1), (oa dy cI cd Q1), (oc0 br d5 d6 d7 d8), (oc0 bo e5 e6 e7 e8), (oa aa cI 40 AR1), (oc7 sh (.ref fa) (nI ft)), (oq fa cF 200 FA), (oc1 fe rk9 wd9 tw9 pa9 pb9 (.ref lo) (.ref lk) fm9), (oc4 lk kd9 st9 (.ref r) gb9 jt9 we9), (oc6 r (.ref rx) (.ref ry) (nI n) rg), (oa rx cI cap X), (oa ry cI cap Y)] ++ va_pl L f) → va_S A s.heap H locs → lv_has ls 7 [(5, .int (nI t5)), (4, .ref r), (0, .ref lw), (1, .ref sh), (2, .ref fe), (3, .int lim)] → W p l e ((headSpec (.code yX4_cornerThatGoes cX4_cornerThatGoes 7 (some .int) :: ws0) ({ frames := 5, cells := 0, slots := 0, locals := 131 } : Room)).room) s m ([.ref lw, .ref sh, .ref fe, .int lim] : List Value).toArray below meth c H locs 0 0 Q9 (F0 m 83 ls []) := by
            intro n9
            induction n9 with
            | zero => intro t5 R AR1 nt1 TX1 TY1 rt1 nw1 WX1 WY1 rw1 nd1 P1 Q1 rd1 d5 d6 d7 d8 e5 e6 e7 e8 H locs ls hm; exact absurd hm (Nat.not_lt_zero _)
            | succ n9 ih_83 =>
              intro t5 R AR1 nt1 TX1 TY1 rt1 nw1 WX1 WY1 rw1 nd1 P1 Q1 rd1 d5 d6 d7 d8 e5 e6 e7 e8 H locs ls hm ht5 har hR hct hP hD hS hl
              refine lv_iload hx hb dX4_cornerThatGoes_83 (lv_at hl 0 rfl) ?_
              refine lv_aload hx hb dX4_cornerThatGoes_85 (lv_at hl 1 rfl) ?_
              refine va_get (D := (dC, dI)) (ci := 6) (v := .int (nI n)) (C := RX7) (T := TX7) (N := 4) hx hb hts inX7 hown hK hP 17 rfl rfl 2 (Nat.le_of_ble_eq_true rfl) (hts _ mw_176) (fun _ h9 => h9) rfl dX4_cornerThatGoes_87 ?_
              have b9_6 : t5 < 2147483648 := by omega
              refine lv_icmp_ge (tgt := 184) hx hb dX4_cornerThatGoes_90 rfl (fun c_5 => ?_) (fun c_5 => ?_)
              · have c_5 : ((n : Nat) : Int) ≤ ((t5 : Nat) : Int) := zc_le (nI_toInt b9_4) (nI_toInt b9_6) c_5
                refine lv_iconst (v := (-1)) hx hb dX4_cornerThatGoes_184 rfl ?_
                have hy9 := go_all (lim := lim) hR (by omega : n ≤ cntP R n)
                obtain ⟨hP9, hD9⟩ := zq_part (cx := [(oc3 lw (.ref dr) (.ref tg) (.ref wy) (.ref br) (.ref bo) (.ref aa)), (oc6 tg (.ref tx) (.ref ty) (nI nt1) rt1), (oa tx cI 3 TX1), (oa ty cI 3 TY1), (oc6 wy (.ref wx) (.ref wz) (nI nw1) rw1), (oa wx cI 2 WX1), (oa wz cI 2 WY1), (oc6 dr (.ref dx) (.ref dy) (nI nd1) rd1), (oa dx cI cd P1), (oa dy cI cd Q1), (oc0 br d5 d6 d7 d8), (oc0 bo e5 e6 e7 e8), (oa aa cI 40 AR1), (oc7 sh (.ref fa) (nI ft)), (oq fa cF 200 FA), (oc1 fe rk9 wd9 tw9 pa9 pb9 (.ref lo) (.ref lk) fm9), (oc4 lk kd9 st9 (.ref r) gb9 jt9 we9), (oc6 r (.ref rx) (.ref ry) (nI n) rg), (oa rx cI cap X), (oa ry cI cap Y)]) hP hD [0, 1, 2, 3, 4, 5, 6, 7, 8, 9, 10, 11, 12, 13, 14, 15, 16, 17, 18, 19] rfl rfl
                rw [hQ9]
                exact W.iret (v := (-1)) hx hb hr (fun t ht hW => ⟨⟨_, rfl, (-1), nt1, TX1, TY1, rt1, nw1, WX1, WY1, rw1, nd1, P1, Q1, rd1, d5, d6, d7, d8, e5, e6, e7, e8, AR1, rfl, (hy9), by rw [ht]; exact hP9, hD9⟩, hS.F ht⟩) hS.2.2 dX4_cornerThatGoes_185
              · have c_5 : ((t5 : Nat) : Int) < ((n : Nat) : Int) := zc_nle (nI_toInt b9_4) (nI_toInt b9_6) c_5
                refine lv_aload_n hx hb dX4_cornerThatGoes_93 rfl (lv_at hl 2 rfl) ?_
                refine lv_aload hx hb dX4_cornerThatGoes_94 (lv_at hl 1 rfl) ?_
                refine va_get (D := (dC, dI)) (ci := 6) (v := .int (nI n)) (C := RX7) (T := TX7) (N := 4) hx hb hts inX7 hown hK hP 17 rfl rfl 2 (Nat.le_of_ble_eq_true rfl) (hts _ mw_176) (fun _ h9 => h9) rfl dX4_cornerThatGoes_96 ?_
                refine lv_iload_n hx hb dX4_cornerThatGoes_99 rfl (lv_at hl 5 rfl) ?_
                obtain ⟨hPc, hDc, hFc⟩ := zc_sub (wc := [(oc3 lw (.ref dr) (.ref tg) (.ref wy) (.ref br) (.ref bo) (.ref aa)), (oa aa cI 40 AR1)]) hP hD hS hA [0, 12] rfl rfl
                refine zcalle (va_runV (As := [.int (nI n), .int lim]) (rest := []) ⟨hx, hb, hml, hown, hts⟩ (k_Law_leastArea l dC dI cI cZ cF H.size lw dr tg wy br bo aa n AR1 lim (by first | with_reducible assumption | omega)) (csV_71 hts rfl rfl ⟨Nat.le_of_ble_eq_true rfl, Nat.le_of_ble_eq_true rfl⟩) (zPV2 (q0 := 0) (ci := 3) hPc hDc hK hXN rfl rfl) rfl rfl hl.1 rfl (lv_room (Nat.le_of_ble_eq_true rfl)) dX4_cornerThatGoes_100 ⟨Nat.le_of_ble_eq_true rfl, Nat.le_of_ble_eq_true rfl⟩) hS hFc hFc (fun v9 t H locs ht hB hk1 hS => ?_)
                obtain ⟨zb, rfl, hat, hP1, hD1⟩ := hB
                refine W.eq (g2 := F0 m 103 ls [.int zb]) rfl ?_
                rw [ht] at hP1
                obtain ⟨hP, hD⟩ := zkQ (W2 := [(oc3 lw (.ref dr) (.ref tg) (.ref wy) (.ref br) (.ref bo) (.ref aa)), (oc6 tg (.ref tx) (.ref ty) (nI nt1) rt1), (oa tx cI 3 TX1), (oa ty cI 3 TY1), (oc6 wy (.ref wx) (.ref wz) (nI nw1) rw1), (oa wx cI 2 WX1), (oa wz cI 2 WY1), (oc6 dr (.ref dx) (.ref dy) (nI nd1) rd1), (oa dx cI cd P1), (oa dy cI cd Q1), (oc0 br d5 d6 d7 d8), (oc0 bo e5 e6 e7 e8), (oa aa cI 40 AR1), (oc7 sh (.ref fa) (nI ft)), (oq fa cF 200 FA), (oc1 fe rk9 wd9 tw9 pa9 pb9 (.ref lo) (.ref lk) fm9), (oc4 lk kd9 st9 (.ref r) gb9 jt9 we9), (oc6 r (.ref rx) (.ref ry) (nI n) rg), (oa rx cI cap X), (oa ry cI cap Y)]) hP hD [0, 12] [1, 2, 3, 4, 5, 6, 7, 8, 9, 10, 11, 13, 14, 15, 16, 17, 18, 19] [1, 2, 3, 4, 5, 6, 7, 8, 9, 10, 11, 13, 14, 15, 16, 17, 18, 19] [0, 12] [18, 0, 1, 2, 3, 4, 5, 6, 7, 8, 9, 10, 19, 11, 12, 13, 14, 15, 16, 17] 20 rfl rfl rfl rfl rfl rfl rfl rfl rfl hk1 hFc hP1 hD1
                clear hk1 hPc hDc hFc hP1 hD1 ht
                refine lv_istore (lv' := [(6, .int zb), (5, .int (nI t5)), (4, .ref r), (0, .ref lw), (1, .ref sh), (2, .ref fe), (3, .int lim)]) hx hb dX4_cornerThatGoes_103 hl (Nat.le_of_ble_eq_true rfl) rfl (fun ls hl => ?_)
                refine lv_iload hx hb dX4_cornerThatGoes_105 (lv_at hl 0 rfl) ?_
                refine lv_iconst (v := (-1)) hx hb dX4_cornerThatGoes_107 rfl ?_
                refine lv_icmp_ne (tgt := 113) hx hb dX4_cornerThatGoes_108 rfl (fun c_7 => ?_) (fun c_7 => ?_)
                · have c_7 : ¬ zb.toInt = (-1) := zc_ne rfl rfl c_7
                  obtain ⟨b9, hz9, hbk, hbF, hbm⟩ := bst_get hat (by omega)
                  have hF9 := (arI_f hp har hbk).mp (Classical.not_not.mp hbF)
                  refine lv_aload_n hx hb dX4_cornerThatGoes_113 rfl (lv_at hl 3 rfl) ?_
                  refine va_get (D := (dC, dI)) (ci := 3) (v := .ref dr) (C := RX4) (T := TX4) (N := 6) hx hb hts inX4 hown hK hP 0 rfl rfl 0 (Nat.le_of_ble_eq_true rfl) (hts _ mw_219) (fun _ h9 => h9) rfl dX4_cornerThatGoes_114 ?_
                  refine lv_aload hx hb dX4_cornerThatGoes_117 (lv_at hl 2 rfl) ?_
                  obtain ⟨hPc, hDc, hFc⟩ := zc_sub (wc := [(oc6 dr (.ref dx) (.ref dy) (nI nd1) rd1), (oa dx cI cd P1), (oa dy cI cd Q1), (oc6 r (.ref rx) (.ref ry) (nI n) rg), (oa rx cI cap X), (oa ry cI cap Y)]) hP hD hS hA [7, 8, 9, 17, 18, 19] rfl rfl
                  refine zcall (st1 := []) (va_runV (As := [.ref r]) (rest := []) ⟨hx, hb, hml, hown, hts⟩ (k_Row_copyFrom l dC dI cI cZ cF H.size dr dx dy nd1 cd P1 Q1 rd1 r rx ry n cap X Y rg (by first | with_reducible assumption | omega) (by first | with_reducible assumption | omega) (by first | with_reducible assumption | omega) (by first | with_reducible assumption | omega) (hrg)) (csV_72 hts rfl rfl ⟨Nat.le_of_ble_eq_true rfl, Nat.le_of_ble_eq_true rfl⟩) (zPV2 (q0 := 0) (ci := 6) hPc hDc hK hXN rfl rfl) rfl rfl hl.1 rfl (lv_room (Nat.le_of_ble_eq_true rfl)) dX4_cornerThatGoes_119 ⟨Nat.le_of_ble_eq_true rfl, Nat.le_of_ble_eq_true rfl⟩) hS hFc hFc rfl (fun t H locs ht hB hk1 hS => ?_)
                  obtain ⟨P2, Q2, hcp, hP1, hD1⟩ := hB
                  rw [ht] at hP1
                  obtain ⟨hP, hD⟩ := zkQ (W2 := [(oc3 lw (.ref dr) (.ref tg) (.ref wy) (.ref br) (.ref bo) (.ref aa)), (oc6 tg (.ref tx) (.ref ty) (nI nt1) rt1), (oa tx cI 3 TX1), (oa ty cI 3 TY1), (oc6 wy (.ref wx) (.ref wz) (nI nw1) rw1), (oa wx cI 2 WX1), (oa wz cI 2 WY1), (oc6 dr (.ref dx) (.ref dy) (nI n) rg), (oa dx cI cd P2), (oa dy cI cd Q2), (oc0 br d5 d6 d7 d8), (oc0 bo e5 e6 e7 e8), (oa aa cI 40 AR1), (oc7 sh (.ref fa) (nI ft)), (oq fa cF 200 FA), (oc1 fe rk9 wd9 tw9 pa9 pb9 (.ref lo) (.ref lk) fm9), (oc4 lk kd9 st9 (.ref r) gb9 jt9 we9), (oc6 r (.ref rx) (.ref ry) (nI n) rg), (oa rx cI cap X), (oa ry cI cap Y)]) hP hD [7, 8, 9, 17, 18, 19] [0, 1, 2, 3, 4, 5, 6, 10, 11, 12, 13, 14, 15, 16] [0, 1, 2, 3, 4, 5, 6, 10, 11, 12, 13, 14, 15, 16] [7, 8, 9, 17, 18, 19] [0, 1, 2, 3, 4, 5, 6, 14, 15, 16, 7, 8, 9, 10, 11, 12, 13, 17, 18, 19] 20 rfl rfl rfl rfl rfl rfl rfl rfl rfl hk1 hFc hP1 hD1
                  clear hk1 hPc hDc hFc hP1 hD1 ht
                  refine lv_aload_n hx hb dX4_cornerThatGoes_122 rfl (lv_at hl 3 rfl) ?_
                  refine va_get (D := (dC, dI)) (ci := 3) (v := .ref dr) (C := RX4) (T := TX4) (N := 6) hx hb hts inX4 hown hK hP 0 rfl rfl 0 (Nat.le_of_ble_eq_true rfl) (hts _ mw_219) (fun _ h9 => h9) rfl dX4_cornerThatGoes_123 ?_
                  refine lv_iload hx hb dX4_cornerThatGoes_126 (lv_at hl 0 rfl) ?_
                  refine zz_i (v := nI b9) (hz9) ?_
                  obtain ⟨hPc, hDc, hFc⟩ := zc_sub (wc := [(oc6 dr (.ref dx) (.ref dy) (nI n) rg), (oa dx cI cd P2), (oa dy cI cd Q2)]) hP hD hS hA [7, 8, 9] rfl rfl
                  refine zcall (st1 := []) (va_runV (As := [.int (nI b9)]) (rest := []) ⟨hx, hb, hml, hown, hts⟩ (k_Row_cut l dC dI cI cZ cF H.size dr dx dy n cd P2 Q2 rg b9 (by first | with_reducible assumption | omega) (by first | with_reducible assumption | omega) (by first | with_reducible assumption | omega)) (csV_73 hts rfl rfl ⟨Nat.le_of_ble_eq_true rfl, Nat.le_of_ble_eq_true rfl⟩) (zPV2 (q0 := 0) (ci := 6) hPc hDc hK hXN rfl rfl) rfl rfl hl.1 rfl (lv_room (Nat.le_of_ble_eq_true rfl)) dX4_cornerThatGoes_128 ⟨Nat.le_of_ble_eq_true rfl, Nat.le_of_ble_eq_true rfl⟩) hS hFc hFc rfl (fun t H locs ht hB hk1 hS => ?_)
                  obtain ⟨P3, Q3, hc1, hc2, hP1, hD1⟩ := hB
                  rw [ht] at hP1
                  obtain ⟨hP, hD⟩ := zkQ (W2 := [(oc3 lw (.ref dr) (.ref tg) (.ref wy) (.ref br) (.ref bo) (.ref aa)), (oc6 tg (.ref tx) (.ref ty) (nI nt1) rt1), (oa tx cI 3 TX1), (oa ty cI 3 TY1), (oc6 wy (.ref wx) (.ref wz) (nI nw1) rw1), (oa wx cI 2 WX1), (oa wz cI 2 WY1), (oc6 dr (.ref dx) (.ref dy) (nI (n - 1)) rg), (oa dx cI cd P3), (oa dy cI cd Q3), (oc0 br d5 d6 d7 d8), (oc0 bo e5 e6 e7 e8), (oa aa cI 40 AR1), (oc7 sh (.ref fa) (nI ft)), (oq fa cF 200 FA), (oc1 fe rk9 wd9 tw9 pa9 pb9 (.ref lo) (.ref lk) fm9), (oc4 lk kd9 st9 (.ref r) gb9 jt9 we9), (oc6 r (.ref rx) (.ref ry) (nI n) rg), (oa rx cI cap X), (oa ry cI cap Y)]) hP hD [7, 8, 9] [0, 1, 2, 3, 4, 5, 6, 10, 11, 12, 13, 14, 15, 16, 17, 18, 19] [0, 1, 2, 3, 4, 5, 6, 10, 11, 12, 13, 14, 15, 16, 17, 18, 19] [7, 8, 9] [0, 1, 2, 3, 4, 5, 6, 17, 18, 19, 7, 8, 9, 10, 11, 12, 13, 14, 15, 16] 20 rfl rfl rfl rfl rfl rfl rfl rfl rfl hk1 hFc hP1 hD1
                  clear hk1 hPc hDc hFc hP1 hD1 ht
                  have hcut := ct_cg hcp hc1 hc2 hbk
                  refine lv_aload_n hx hb dX4_cornerThatGoes_131 rfl (lv_at hl 3 rfl) ?_
                  refine lv_aload_n hx hb dX4_cornerThatGoes_132 rfl (lv_at hl 4 rfl) ?_
                  refine lv_aload_n hx hb dX4_cornerThatGoes_133 rfl (lv_at hl 5 rfl) ?_
                  refine lv_aload hx hb dX4_cornerThatGoes_134 (lv_at hl 2 rfl) ?_
                  refine va_get (D := (dC, dI)) (ci := 6) (v := .ref rx) (C := RX7) (T := TX7) (N := 4) hx hb hts inX7 hown hK hP 17 rfl rfl 0 (Nat.le_of_ble_eq_true rfl) (hts _ mw_163) (fun _ h9 => h9) rfl dX4_cornerThatGoes_136 ?_
                  refine lv_iload hx hb dX4_cornerThatGoes_139 (lv_at hl 0 rfl) ?_
                  refine zz_i (v := nI b9) (hz9) ?_
                  have b9_8 : b9 < cap := by omega
                  have b9_9 : cap < 2147483648 := by omega
                  refine z_iald hx hb hK hP 18 0 rfl rfl (e := b9) rfl b9_8 b9_9 dX4_cornerThatGoes_141 ?_
                  refine lv_aload hx hb dX4_cornerThatGoes_142 (lv_at hl 2 rfl) ?_
                  refine va_get (D := (dC, dI)) (ci := 6) (v := .ref ry) (C := RX7) (T := TX7) (N := 4) hx hb hts inX7 hown hK hP 17 rfl rfl 1 (Nat.le_of_ble_eq_true rfl) (hts _ mw_170) (fun _ h9 => h9) rfl dX4_cornerThatGoes_144 ?_
                  refine lv_iload hx hb dX4_cornerThatGoes_147 (lv_at hl 0 rfl) ?_
                  refine zz_i (v := nI b9) (hz9) ?_
                  refine z_iald hx hb hK hP 19 0 rfl rfl (e := b9) rfl b9_8 b9_9 dX4_cornerThatGoes_149 ?_
                  obtain ⟨hPc, hDc, hFc⟩ := zc_part (cx := [(oc3 lw (.ref dr) (.ref tg) (.ref wy) (.ref br) (.ref bo) (.ref aa)), (oc7 sh (.ref fa) (nI ft)), (oq fa cF 200 FA), (oc1 fe rk9 wd9 tw9 pa9 pb9 (.ref lo) (.ref lk) fm9), (oc4 lk kd9 st9 (.ref r) gb9 jt9 we9)]) hP hD hS hA [0, 13, 14, 15, 16] rfl rfl
                  refine zcall (st1 := [.int (pI (∀ q, q < ft → (q ≠ f0 → lvF ft st tn q → ¬ onF kd mn cx cy q (X b9).toInt (Y b9).toInt)))]) (va_runV (As := [.ref sh, .ref fe, .int (X b9), .int (Y b9)]) (rest := []) ⟨hx, hb, hml, hown, hts⟩ (k_Law_isBare l dC dI cI cZ cF H.size lw dr tg wy br bo aa sh fa ft FA fe lo rk9 wd9 tw9 pa9 pb9 lk kd9 st9 gb9 jt9 we9 r f0 fm9 L f kd st tn mn cx cy (X b9) (Y b9) (by first | with_reducible assumption | omega) (by first | with_reducible assumption | omega) (hFA) (hs1) (by first | with_reducible assumption | assumption) (by first | with_reducible assumption | assumption) (by first | with_reducible assumption | assumption) ((hp b9 hbk).1) ((hp b9 hbk).2)) (csV_74 hts rfl rfl ⟨Nat.le_of_ble_eq_true rfl, Nat.le_of_ble_eq_true rfl⟩) (zPV2 (q0 := 0) (ci := 3) hPc hDc hK hXN rfl rfl) rfl rfl hl.1 rfl (lv_room (Nat.le_of_ble_eq_true rfl)) dX4_cornerThatGoes_150 ⟨Nat.le_of_ble_eq_true rfl, Nat.le_of_ble_eq_true rfl⟩) hS hFc hFc rfl (fun t H locs ht hB hk1 hS => ?_)
                  obtain ⟨hP1, hD1⟩ := hB
                  rw [ht] at hP1
                  obtain ⟨hP, hD⟩ := zkP (W2 := [(oc3 lw (.ref dr) (.ref tg) (.ref wy) (.ref br) (.ref bo) (.ref aa)), (oc6 tg (.ref tx) (.ref ty) (nI nt1) rt1), (oa tx cI 3 TX1), (oa ty cI 3 TY1), (oc6 wy (.ref wx) (.ref wz) (nI nw1) rw1), (oa wx cI 2 WX1), (oa wz cI 2 WY1), (oc6 dr (.ref dx) (.ref dy) (nI (n - 1)) rg), (oa dx cI cd P3), (oa dy cI cd Q3), (oc0 br d5 d6 d7 d8), (oc0 bo e5 e6 e7 e8), (oa aa cI 40 AR1), (oc7 sh (.ref fa) (nI ft)), (oq fa cF 200 FA), (oc1 fe rk9 wd9 tw9 pa9 pb9 (.ref lo) (.ref lk) fm9), (oc4 lk kd9 st9 (.ref r) gb9 jt9 we9), (oc6 r (.ref rx) (.ref ry) (nI n) rg), (oa rx cI cap X), (oa ry cI cap Y)]) hP hD [0, 13, 14, 15, 16] [1, 2, 3, 4, 5, 6, 7, 8, 9, 10, 11, 12, 17, 18, 19] [1, 2, 3, 4, 5, 6, 7, 8, 9, 10, 11, 12, 17, 18, 19] [0, 13, 14, 15, 16] [15, 0, 1, 2, 3, 4, 5, 6, 7, 8, 9, 10, 11, 16, 17, 18, 19, 12, 13, 14] 20 rfl rfl rfl rfl rfl rfl rfl rfl rfl hk1 hFc hP1 hD1
                  clear hk1 hPc hDc hFc hP1 hD1 ht
                  refine zz_i (v := pI (bareK ft st tn kd mn cx cy f0 (X b9).toInt (Y b9).toInt)) (rfl) ?_
                  refine lv_if_eq (tgt := 170) hx hb dX4_cornerThatGoes_153 rfl (fun c_10 => ?_) (fun c_10 => ?_)
                  · have c_10 : ¬ (bareK ft st tn kd mn cx cy f0 (X b9).toInt (Y b9).toInt) := zp_0 c_10
                    have hbad : ¬ goK ft st tn kd mn cx cy f0 n X Y rg lim b9 := fun h9 => (by first | exact absurd h9.2.2.1 (by first | with_reducible assumption | assumption) | exact absurd h9.2.2.2 (by first | with_reducible assumption | assumption))
                    refine lv_aload_n hx hb dX4_cornerThatGoes_170 rfl (lv_at hl 3 rfl) ?_
                    refine va_get (D := (dC, dI)) (ci := 3) (v := .ref aa) (C := RX4) (T := TX4) (N := 6) hx hb hts inX4 hown hK hP 0 rfl rfl 5 (Nat.le_of_ble_eq_true rfl) (hts _ mw_225) (fun _ h9 => h9) rfl dX4_cornerThatGoes_171 ?_
                    refine lv_iload hx hb dX4_cornerThatGoes_174 (lv_at hl 0 rfl) ?_
                    refine zz_i (v := nI b9) (hz9) ?_
                    refine lv_iconst (v := (-1)) hx hb dX4_cornerThatGoes_176 rfl ?_
                    have b9_11 : b9 < 40 := by omega
                    refine z_iast hx hb hK hP hD hS 12 0 rfl rfl (e := b9) (x := (-1)) rfl b9_11 (Nat.le_of_ble_eq_true rfl) dX4_cornerThatGoes_177 (fun H locs hP hD hS => ?_)
                    obtain ⟨hP, hD⟩ : zPD (dC, dI) classes A ([(oc3 lw (.ref dr) (.ref tg) (.ref wy) (.ref br) (.ref bo) (.ref aa)), (oc6 tg (.ref tx) (.ref ty) (nI nt1) rt1), (oa tx cI 3 TX1), (oa ty cI 3 TY1), (oc6 wy (.ref wx) (.ref wz) (nI nw1) rw1), (oa wx cI 2 WX1), (oa wz cI 2 WY1), (oc6 dr (.ref dx) (.ref dy) (nI (n - 1)) rg), (oa dx cI cd P3), (oa dy cI cd Q3), (oc0 br d5 d6 d7 d8), (oc0 bo e5 e6 e7 e8), (oa aa cI 40 (upd AR1 b9 (-1))), (oc7 sh (.ref fa) (nI ft)), (oq fa cF 200 FA), (oc1 fe rk9 wd9 tw9 pa9 pb9 (.ref lo) (.ref lk) fm9), (oc4 lk kd9 st9 (.ref r) gb9 jt9 we9), (oc6 r (.ref rx) (.ref ry) (nI n) rg), (oa rx cI cap X), (oa ry cI cap Y)] ++ va_pl L f) H := ⟨hP, hD⟩
                    refine lv_iinc (v := nI (t5 + 1)) (lv' := [(5, .int (nI (t5 + 1))), (6, .int zb), (4, .ref r), (0, .ref lw), (1, .ref sh), (2, .ref fe), (3, .int lim)]) hx hb dX4_cornerThatGoes_178 hl (k := 1) rfl (nI_add t5 1) (Nat.le_of_ble_eq_true rfl) rfl (fun ls hl => ?_)
                    refine lv_goto (tgt := 83) hx hb dX4_cornerThatGoes_181 rfl ?_
                    exact ih_83 (t5 + 1) (fun j => R j ∨ j = b9) (upd AR1 b9 (-1)) nt1 TX1 TY1 rt1 nw1 WX1 WY1 rw1 (n - 1) P3 Q3 rg d5 d6 d7 d8 e5 e6 e7 e8 H locs ls (by first | with_reducible assumption | omega) (by first | with_reducible assumption | omega) (arI_s har) (fun j hj h => h.elim (fun h9 => hR j hj h9) (fun h9 => by rw [h9]; exact hbad)) (Nat.lt_of_le_of_lt hct (cntP_lt (fun j h => Or.inl h) hbk (Or.inr rfl) hF9.1)) hP hD hS (lv_sub hl [0, 2, 3, 4, 5, 6] rfl)
                  · have c_10 : bareK ft st tn kd mn cx cy f0 (X b9).toInt (Y b9).toInt := zp_1 c_10
                    refine lv_aload_n hx hb dX4_cornerThatGoes_156 rfl (lv_at hl 3 rfl) ?_
                    refine lv_aload_n hx hb dX4_cornerThatGoes_157 rfl (lv_at hl 4 rfl) ?_
                    refine lv_aload_n hx hb dX4_cornerThatGoes_158 rfl (lv_at hl 5 rfl) ?_
                    refine lv_iload hx hb dX4_cornerThatGoes_159 (lv_at hl 0 rfl) ?_
                    refine zz_i (v := nI b9) (hz9) ?_
                    obtain ⟨hPc, hDc, hFc⟩ := zc_part (cx := [(oc3 lw (.ref dr) (.ref tg) (.ref wy) (.ref br) (.ref bo) (.ref aa)), (oc6 tg (.ref tx) (.ref ty) (nI nt1) rt1), (oa tx cI 3 TX1), (oa ty cI 3 TY1), (oc6 wy (.ref wx) (.ref wz) (nI nw1) rw1), (oa wx cI 2 WX1), (oa wz cI 2 WY1), (oc6 dr (.ref dx) (.ref dy) (nI (n - 1)) rg), (oa dx cI cd P3), (oa dy cI cd Q3), (oc0 br d5 d6 d7 d8), (oc0 bo e5 e6 e7 e8), (oc7 sh (.ref fa) (nI ft)), (oq fa cF 200 FA), (oc1 fe rk9 wd9 tw9 pa9 pb9 (.ref lo) (.ref lk) fm9), (oc4 lk kd9 st9 (.ref r) gb9 jt9 we9), (oc6 r (.ref rx) (.ref ry) (nI n) rg), (oa rx cI cap X), (oa ry cI cap Y)]) hP hD hS hA [0, 1, 2, 3, 4, 5, 6, 7, 8, 9, 10, 11, 13, 14, 15, 16, 17, 18, 19] rfl rfl
                    refine zcall (st1 := [.int (pI (pls (n - 1) P3 Q3 ∧ eFr (n - 1) P3 Q3 rg (prv (n - 1) (gpK (n - 1) b9)) 0 ∧ ∀ q, q < ft → (q ≠ f0 → lvF ft st tn q → (apB (min (min (X b9).toInt (X (prv n b9)).toInt) (X (nxt n b9)).toInt) (min (min (Y b9).toInt (Y (prv n b9)).toInt) (Y (nxt n b9)).toInt) (max (max (X b9).toInt (X (prv n b9)).toInt) (X (nxt n b9)).toInt) (max (max (Y b9).toInt (Y (prv n b9)).toInt) (Y (nxt n b9)).toInt) (nN (mn q)) (cF40 cx q) (cF40 cy q) ∨ (asb n X Y rg (n - 1) P3 Q3 rg (nN (mn q)) (cF40 cx q) (cF40 cy q) (rgK (kd q).toInt) ∧ (¬ ∃ j, j < nN (mn q) ∧ swC n X Y b9 (cF40 cx q j).toInt (cF40 cy q j).toInt))))))]) (va_runV (As := [.ref sh, .ref fe, .int (nI b9)]) (rest := []) ⟨hx, hb, hml, hown, hts⟩ (k_Law_allows_k l dC dI cI cZ cF H.size lw dr tg wy br bo aa tx ty nt1 TX1 TY1 rt1 wx wz nw1 WX1 WY1 rw1 dx dy (n - 1) cd P3 Q3 rg d5 d6 d7 d8 e5 e6 e7 e8 sh fa ft FA fe lo rk9 wd9 tw9 pa9 pb9 lk kd9 st9 gb9 jt9 we9 r rx ry n cap X Y rg f0 b9 fm9 L f kd st tn mn cx cy (by first | with_reducible assumption | omega) (by first | with_reducible assumption | omega) (hFA) (hs1) (by first | with_reducible assumption | assumption) (by first | with_reducible assumption | assumption) (by first | with_reducible assumption | assumption) (by first | with_reducible assumption | omega) (by first | with_reducible assumption | omega) (by first | with_reducible assumption | omega) (by first | with_reducible assumption | omega) (hp) (by first | with_reducible assumption | omega) (by first | with_reducible assumption | omega) (by first | with_reducible assumption | omega) (by first | with_reducible assumption | omega)) (csV_75 hts rfl rfl ⟨Nat.le_of_ble_eq_true rfl, Nat.le_of_ble_eq_true rfl⟩) (zPV2 (q0 := 0) (ci := 3) hPc hDc hK hXN rfl rfl) rfl rfl hl.1 rfl (lv_room (Nat.le_of_ble_eq_true rfl)) dX4_cornerThatGoes_161 ⟨Nat.le_of_ble_eq_true rfl, Nat.le_of_ble_eq_true rfl⟩) hS hFc hFc rfl (fun t H locs ht hB hk1 hS => ?_)
                    obtain ⟨q_12, q_13, q_14, q_15, q_16, q_17, q_18, q_19, q_20, q_21, q_22, q_23, q_24, q_25, q_26, q_27, hP1, hD1⟩ := hB
                    rw [ht] at hP1
                    obtain ⟨hP, hD⟩ := zkP (W2 := [(oc3 lw (.ref dr) (.ref tg) (.ref wy) (.ref br) (.ref bo) (.ref aa)), (oc6 tg (.ref tx) (.ref ty) (nI q_12) q_15), (oa tx cI 3 q_13), (oa ty cI 3 q_14), (oc6 wy (.ref wx) (.ref wz) (nI q_16) q_19), (oa wx cI 2 q_17), (oa wz cI 2 q_18), (oc6 dr (.ref dx) (.ref dy) (nI (n - 1)) rg), (oa dx cI cd P3), (oa dy cI cd Q3), (oc0 br q_20 q_21 q_22 q_23), (oc0 bo q_24 q_25 q_26 q_27), (oa aa cI 40 AR1), (oc7 sh (.ref fa) (nI ft)), (oq fa cF 200 FA), (oc1 fe rk9 wd9 tw9 pa9 pb9 (.ref lo) (.ref lk) fm9), (oc4 lk kd9 st9 (.ref r) gb9 jt9 we9), (oc6 r (.ref rx) (.ref ry) (nI n) rg), (oa rx cI cap X), (oa ry cI cap Y)]) hP hD [0, 1, 2, 3, 4, 5, 6, 7, 8, 9, 10, 11, 13, 14, 15, 16, 17, 18, 19] [12] [12] [0, 1, 2, 3, 4, 5, 6, 7, 8, 9, 10, 11, 13, 14, 15, 16, 17, 18, 19] [1, 2, 3, 4, 5, 6, 7, 8, 9, 10, 11, 12, 0, 13, 14, 15, 16, 17, 18, 19] 20 rfl rfl rfl rfl rfl rfl rfl rfl rfl hk1 hFc hP1 hD1
                    clear hk1 hPc hDc hFc hP1 hD1 ht
                    refine zz_i (v := pI (alC ft st tn kd mn cx cy f0 n X Y rg (n - 1) (ctF X b9) (ctF Y b9) rg b9)) (zp_iff (alC_cg (by omega) hcut)) ?_
                    refine lv_if_eq (tgt := 170) hx hb dX4_cornerThatGoes_164 rfl (fun c_28 => ?_) (fun c_28 => ?_)
                    · have c_28 : ¬ (alC ft st tn kd mn cx cy f0 n X Y rg (n - 1) (ctF X b9) (ctF Y b9) rg b9) := zp_0 c_28
                      have hbad : ¬ goK ft st tn kd mn cx cy f0 n X Y rg lim b9 := fun h9 => (by first | exact absurd h9.2.2.1 (by first | with_reducible assumption | assumption) | exact absurd h9.2.2.2 (by first | with_reducible assumption | assumption))
                      refine lv_aload_n hx hb dX4_cornerThatGoes_170 rfl (lv_at hl 3 rfl) ?_
                      refine va_get (D := (dC, dI)) (ci := 3) (v := .ref aa) (C := RX4) (T := TX4) (N := 6) hx hb hts inX4 hown hK hP 0 rfl rfl 5 (Nat.le_of_ble_eq_true rfl) (hts _ mw_225) (fun _ h9 => h9) rfl dX4_cornerThatGoes_171 ?_
                      refine lv_iload hx hb dX4_cornerThatGoes_174 (lv_at hl 0 rfl) ?_
                      refine zz_i (v := nI b9) (hz9) ?_
                      refine lv_iconst (v := (-1)) hx hb dX4_cornerThatGoes_176 rfl ?_
                      have b9_29 : b9 < 40 := by omega
                      refine z_iast hx hb hK hP hD hS 12 0 rfl rfl (e := b9) (x := (-1)) rfl b9_29 (Nat.le_of_ble_eq_true rfl) dX4_cornerThatGoes_177 (fun H locs hP hD hS => ?_)
                      obtain ⟨hP, hD⟩ : zPD (dC, dI) classes A ([(oc3 lw (.ref dr) (.ref tg) (.ref wy) (.ref br) (.ref bo) (.ref aa)), (oc6 tg (.ref tx) (.ref ty) (nI q_12) q_15), (oa tx cI 3 q_13), (oa ty cI 3 q_14), (oc6 wy (.ref wx) (.ref wz) (nI q_16) q_19), (oa wx cI 2 q_17), (oa wz cI 2 q_18), (oc6 dr (.ref dx) (.ref dy) (nI (n - 1)) rg), (oa dx cI cd P3), (oa dy cI cd Q3), (oc0 br q_20 q_21 q_22 q_23), (oc0 bo q_24 q_25 q_26 q_27), (oa aa cI 40 (upd AR1 b9 (-1))), (oc7 sh (.ref fa) (nI ft)), (oq fa cF 200 FA), (oc1 fe rk9 wd9 tw9 pa9 pb9 (.ref lo) (.ref lk) fm9), (oc4 lk kd9 st9 (.ref r) gb9 jt9 we9), (oc6 r (.ref rx) (.ref ry) (nI n) rg), (oa rx cI cap X), (oa ry cI cap Y)] ++ va_pl L f) H := ⟨hP, hD⟩
                      refine lv_iinc (v := nI (t5 + 1)) (lv' := [(5, .int (nI (t5 + 1))), (6, .int zb), (4, .ref r), (0, .ref lw), (1, .ref sh), (2, .ref fe), (3, .int lim)]) hx hb dX4_cornerThatGoes_178 hl (k := 1) rfl (nI_add t5 1) (Nat.le_of_ble_eq_true rfl) rfl (fun ls hl => ?_)
                      refine lv_goto (tgt := 83) hx hb dX4_cornerThatGoes_181 rfl ?_
                      exact ih_83 (t5 + 1) (fun j => R j ∨ j = b9) (upd AR1 b9 (-1)) q_12 q_13 q_14 q_15 q_16 q_17 q_18 q_19 (n - 1) P3 Q3 rg q_20 q_21 q_22 q_23 q_24 q_25 q_26 q_27 H locs ls (by first | with_reducible assumption | omega) (by first | with_reducible assumption | omega) (arI_s har) (fun j hj h => h.elim (fun h9 => hR j hj h9) (fun h9 => by rw [h9]; exact hbad)) (Nat.lt_of_le_of_lt hct (cntP_lt (fun j h => Or.inl h) hbk (Or.inr rfl) hF9.1)) hP hD hS (lv_sub hl [0, 2, 3, 4, 5, 6] rfl)
                    · have c_28 : alC ft st tn kd mn cx cy f0 n X Y rg (n - 1) (ctF X b9) (ctF Y b9) rg b9 := zp_1 c_28
                      refine lv_iload hx hb dX4_cornerThatGoes_167 (lv_at hl 0 rfl) ?_
                      have hy9 := go_yes hp har hR hbk hF9 hbm (by first | with_reducible assumption | assumption) (by first | with_reducible assumption | assumption)
                      rw [← hz9] at hy9
                      obtain ⟨hP9, hD9⟩ := zq_part (cx := [(oc3 lw (.ref dr) (.ref tg) (.ref wy) (.ref br) (.ref bo) (.ref aa)), (oc6 tg (.ref tx) (.ref ty) (nI q_12) q_15), (oa tx cI 3 q_13), (oa ty cI 3 q_14), (oc6 wy (.ref wx) (.ref wz) (nI q_16) q_19), (oa wx cI 2 q_17), (oa wz cI 2 q_18), (oc6 dr (.ref dx) (.ref dy) (nI (n - 1)) rg), (oa dx cI cd P3), (oa dy cI cd Q3), (oc0 br q_20 q_21 q_22 q_23), (oc0 bo q_24 q_25 q_26 q_27), (oa aa cI 40 AR1), (oc7 sh (.ref fa) (nI ft)), (oq fa cF 200 FA), (oc1 fe rk9 wd9 tw9 pa9 pb9 (.ref lo) (.ref lk) fm9), (oc4 lk kd9 st9 (.ref r) gb9 jt9 we9), (oc6 r (.ref rx) (.ref ry) (nI n) rg), (oa rx cI cap X), (oa ry cI cap Y)]) hP hD [0, 1, 2, 3, 4, 5, 6, 7, 8, 9, 10, 11, 12, 13, 14, 15, 16, 17, 18, 19] rfl rfl
                      rw [hQ9]
                      exact W.iret (v := zb) hx hb hr (fun t ht hW => ⟨⟨_, rfl, zb, q_12, q_13, q_14, q_15, q_16, q_17, q_18, q_19, (n - 1), P3, Q3, rg, q_20, q_21, q_22, q_23, q_24, q_25, q_26, q_27, AR1, rfl, (hy9), by rw [ht]; exact hP9, hD9⟩, hS.F ht⟩) hS.2.2 dX4_cornerThatGoes_169
                · have c_7 : zb.toInt = (-1) := zc_eq rfl rfl c_7
                  refine lv_iconst (v := (-1)) hx hb dX4_cornerThatGoes_111 rfl ?_
                  have hy9 := go_no (lim := lim) hp hn2.2 har hR hat (by omega)
                  obtain ⟨hP9, hD9⟩ := zq_part (cx := [(oc3 lw (.ref dr) (.ref tg) (.ref wy) (.ref br) (.ref bo) (.ref aa)), (oc6 tg (.ref tx) (.ref ty) (nI nt1) rt1), (oa tx cI 3 TX1), (oa ty cI 3 TY1), (oc6 wy (.ref wx) (.ref wz) (nI nw1) rw1), (oa wx cI 2 WX1), (oa wz cI 2 WY1), (oc6 dr (.ref dx) (.ref dy) (nI nd1) rd1), (oa dx cI cd P1), (oa dy cI cd Q1), (oc0 br d5 d6 d7 d8), (oc0 bo e5 e6 e7 e8), (oa aa cI 40 AR1), (oc7 sh (.ref fa) (nI ft)), (oq fa cF 200 FA), (oc1 fe rk9 wd9 tw9 pa9 pb9 (.ref lo) (.ref lk) fm9), (oc4 lk kd9 st9 (.ref r) gb9 jt9 we9), (oc6 r (.ref rx) (.ref ry) (nI n) rg), (oa rx cI cap X), (oa ry cI cap Y)]) hP hD [0, 1, 2, 3, 4, 5, 6, 7, 8, 9, 10, 11, 12, 13, 14, 15, 16, 17, 18, 19] rfl rfl
                  rw [hQ9]
                  exact W.iret (v := (-1)) hx hb hr (fun t ht hW => ⟨⟨_, rfl, (-1), nt1, TX1, TY1, rt1, nw1, WX1, WY1, rw1, nd1, P1, Q1, rd1, d5, d6, d7, d8, e5, e6, e7, e8, AR1, rfl, (hy9), by rw [ht]; exact hP9, hD9⟩, hS.F ht⟩) hS.2.2 dX4_cornerThatGoes_112
          exact hl_83 _ 0 (fun _ => False) AR1 nt TX TY rt nw WX WY rw nd P Q rd b1 b2 b3 b4 b5 b6 b7 b8 H locs ls (Nat.lt_succ_self _) (by first | with_reducible assumption | omega) (fun j hj => har j (by first | with_reducible assumption | omega)) (fun j hj h => h.elim) (Nat.zero_le _) hP hD hS (lv_sub hl [0, 1, 2, 3, 4, 5] rfl)
        · have c_2 : ((k : Nat) : Int) < ((n : Nat) : Int) := zc_nle (nI_toInt b9_4) (nI_toInt b9_3) c_2
          refine lv_aload_n hx hb dX4_cornerThatGoes_46 rfl (lv_at hl 2 rfl) ?_
          refine va_get (D := (dC, dI)) (ci := 3) (v := .ref aa) (C := RX4) (T := TX4) (N := 6) hx hb hts inX4 hown hK hP 0 rfl rfl 5 (Nat.le_of_ble_eq_true rfl) (hts _ mw_225) (fun _ h9 => h9) rfl dX4_cornerThatGoes_47 ?_
          refine lv_iload hx hb dX4_cornerThatGoes_50 (lv_at hl 0 rfl) ?_
          refine lv_aload hx hb dX4_cornerThatGoes_52 (lv_at hl 1 rfl) ?_
          refine lv_iload hx hb dX4_cornerThatGoes_54 (lv_at hl 0 rfl) ?_
          obtain ⟨hPc, hDc, hFc⟩ := zc_sub (wc := [(oc6 r (.ref rx) (.ref ry) (nI n) rg), (oa rx cI cap X), (oa ry cI cap Y)]) hP hD hS hA [17, 18, 19] rfl rfl
          refine zcall (st1 := [.int (pI (rg.toInt = 0 ∧ (k = 0 ∨ k = n - 1))), .int (nI k), .ref aa]) (va_runV (As := [.int (nI k)]) (rest := [.int (nI k), .ref aa]) ⟨hx, hb, hml, hown, hts⟩ (k_Row_isEnd l dC dI cI cZ cF H.size r rx ry n cap X Y rg k (by first | with_reducible assumption | omega) (by first | with_reducible assumption | omega) (by first | with_reducible assumption | omega)) (csV_76 hts rfl rfl ⟨Nat.le_of_ble_eq_true rfl, Nat.le_of_ble_eq_true rfl⟩) (zPV2 (q0 := 0) (ci := 6) hPc hDc hK hXN rfl rfl) rfl rfl hl.1 rfl (lv_room (Nat.le_of_ble_eq_true rfl)) dX4_cornerThatGoes_56 ⟨Nat.le_of_ble_eq_true rfl, Nat.le_of_ble_eq_true rfl⟩) hS hFc hFc rfl (fun t H locs ht hB hk1 hS => ?_)
          obtain ⟨hP1, hD1⟩ := hB
          rw [ht] at hP1
          obtain ⟨hP, hD⟩ := zkQ (W2 := [(oc3 lw (.ref dr) (.ref tg) (.ref wy) (.ref br) (.ref bo) (.ref aa)), (oc6 tg (.ref tx) (.ref ty) (nI nt) rt), (oa tx cI 3 TX), (oa ty cI 3 TY), (oc6 wy (.ref wx) (.ref wz) (nI nw) rw), (oa wx cI 2 WX), (oa wz cI 2 WY), (oc6 dr (.ref dx) (.ref dy) (nI nd) rd), (oa dx cI cd P), (oa dy cI cd Q), (oc0 br b1 b2 b3 b4), (oc0 bo b5 b6 b7 b8), (oa aa cI 40 AR1), (oc7 sh (.ref fa) (nI ft)), (oq fa cF 200 FA), (oc1 fe rk9 wd9 tw9 pa9 pb9 (.ref lo) (.ref lk) fm9), (oc4 lk kd9 st9 (.ref r) gb9 jt9 we9), (oc6 r (.ref rx) (.ref ry) (nI n) rg), (oa rx cI cap X), (oa ry cI cap Y)]) hP hD [17, 18, 19] [0, 1, 2, 3, 4, 5, 6, 7, 8, 9, 10, 11, 12, 13, 14, 15, 16] [0, 1, 2, 3, 4, 5, 6, 7, 8, 9, 10, 11, 12, 13, 14, 15, 16] [17, 18, 19] [0, 1, 2, 3, 4, 5, 6, 7, 8, 9, 10, 11, 12, 13, 14, 15, 16, 17, 18, 19] 20 rfl rfl rfl rfl rfl rfl rfl rfl rfl hk1 hFc hP1 hD1
          clear hk1 hPc hDc hFc hP1 hD1 ht
          refine zz_i (v := pI (arE n rg k)) (rfl) ?_
          refine lv_if_eq (tgt := 66) hx hb dX4_cornerThatGoes_59 rfl (fun c_30 => ?_) (fun c_30 => ?_)
          · have c_30 : ¬ (arE n rg k) := zp_0 c_30
            refine lv_aload hx hb dX4_cornerThatGoes_66 (lv_at hl 1 rfl) ?_
            refine lv_iload hx hb dX4_cornerThatGoes_68 (lv_at hl 0 rfl) ?_
            obtain ⟨hPc, hDc, hFc⟩ := zc_sub (wc := [(oc6 r (.ref rx) (.ref ry) (nI n) rg), (oa rx cI cap X), (oa ry cI cap Y)]) hP hD hS hA [17, 18, 19] rfl rfl
            refine zcall (st1 := [.int (nI (Int.natAbs (eCr n X Y (prv n k) (X (nxt n k)).toInt (Y (nxt n k)).toInt))), .int (nI k), .ref aa]) (va_runV (As := [.int (nI k)]) (rest := [.int (nI k), .ref aa]) ⟨hx, hb, hml, hown, hts⟩ (k_Row_doubleTriangle l dC dI cI cZ cF H.size r rx ry n cap X Y rg k (by first | with_reducible assumption | omega) (by first | with_reducible assumption | omega) (by first | with_reducible assumption | assumption) (by first | with_reducible assumption | omega)) (csV_77 hts rfl rfl ⟨Nat.le_of_ble_eq_true rfl, Nat.le_of_ble_eq_true rfl⟩) (zPV2 (q0 := 0) (ci := 6) hPc hDc hK hXN rfl rfl) rfl rfl hl.1 rfl (lv_room (Nat.le_of_ble_eq_true rfl)) dX4_cornerThatGoes_70 ⟨Nat.le_of_ble_eq_true rfl, Nat.le_of_ble_eq_true rfl⟩) hS hFc hFc rfl (fun t H locs ht hB hk1 hS => ?_)
            obtain ⟨hP1, hD1⟩ := hB
            rw [ht] at hP1
            obtain ⟨hP, hD⟩ := zkQ (W2 := [(oc3 lw (.ref dr) (.ref tg) (.ref wy) (.ref br) (.ref bo) (.ref aa)), (oc6 tg (.ref tx) (.ref ty) (nI nt) rt), (oa tx cI 3 TX), (oa ty cI 3 TY), (oc6 wy (.ref wx) (.ref wz) (nI nw) rw), (oa wx cI 2 WX), (oa wz cI 2 WY), (oc6 dr (.ref dx) (.ref dy) (nI nd) rd), (oa dx cI cd P), (oa dy cI cd Q), (oc0 br b1 b2 b3 b4), (oc0 bo b5 b6 b7 b8), (oa aa cI 40 AR1), (oc7 sh (.ref fa) (nI ft)), (oq fa cF 200 FA), (oc1 fe rk9 wd9 tw9 pa9 pb9 (.ref lo) (.ref lk) fm9), (oc4 lk kd9 st9 (.ref r) gb9 jt9 we9), (oc6 r (.ref rx) (.ref ry) (nI n) rg), (oa rx cI cap X), (oa ry cI cap Y)]) hP hD [17, 18, 19] [0, 1, 2, 3, 4, 5, 6, 7, 8, 9, 10, 11, 12, 13, 14, 15, 16] [0, 1, 2, 3, 4, 5, 6, 7, 8, 9, 10, 11, 12, 13, 14, 15, 16] [17, 18, 19] [0, 1, 2, 3, 4, 5, 6, 7, 8, 9, 10, 11, 12, 13, 14, 15, 16, 17, 18, 19] 20 rfl rfl rfl rfl rfl rfl rfl rfl rfl hk1 hFc hP1 hD1
            clear hk1 hPc hDc hFc hP1 hD1 ht
            have b9_31 : k < 40 := by omega
            refine z_iast hx hb hK hP hD hS 12 0 rfl rfl (e := k) (x := nI (Int.natAbs (eCr n X Y (prv n k) (X (nxt n k)).toInt (Y (nxt n k)).toInt))) rfl b9_31 (Nat.le_of_ble_eq_true rfl) dX4_cornerThatGoes_73 (fun H locs hP hD hS => ?_)
            obtain ⟨hP, hD⟩ : zPD (dC, dI) classes A ([(oc3 lw (.ref dr) (.ref tg) (.ref wy) (.ref br) (.ref bo) (.ref aa)), (oc6 tg (.ref tx) (.ref ty) (nI nt) rt), (oa tx cI 3 TX), (oa ty cI 3 TY), (oc6 wy (.ref wx) (.ref wz) (nI nw) rw), (oa wx cI 2 WX), (oa wz cI 2 WY), (oc6 dr (.ref dx) (.ref dy) (nI nd) rd), (oa dx cI cd P), (oa dy cI cd Q), (oc0 br b1 b2 b3 b4), (oc0 bo b5 b6 b7 b8), (oa aa cI 40 (upd AR1 k (nI (Int.natAbs (eCr n X Y (prv n k) (X (nxt n k)).toInt (Y (nxt n k)).toInt))))), (oc7 sh (.ref fa) (nI ft)), (oq fa cF 200 FA), (oc1 fe rk9 wd9 tw9 pa9 pb9 (.ref lo) (.ref lk) fm9), (oc4 lk kd9 st9 (.ref r) gb9 jt9 we9), (oc6 r (.ref rx) (.ref ry) (nI n) rg), (oa rx cI cap X), (oa ry cI cap Y)] ++ va_pl L f) H := ⟨hP, hD⟩
            refine lv_iinc (v := nI (k + 1)) (lv' := [(5, .int (nI (k + 1))), (4, .ref r), (0, .ref lw), (1, .ref sh), (2, .ref fe), (3, .int lim)]) hx hb dX4_cornerThatGoes_74 hl (k := 0) rfl (nI_add k 1) (Nat.le_of_ble_eq_true rfl) rfl (fun ls hl => ?_)
            refine lv_goto (tgt := 36) hx hb dX4_cornerThatGoes_77 rfl ?_
            exact ih_36 (k + 1) (upd AR1 k (nI (Int.natAbs (eCr n X Y (prv n k) (X (nxt n k)).toInt (Y (nxt n k)).toInt)))) H locs ls (by first | with_reducible assumption | omega) (by first | with_reducible assumption | omega) (by intro j hj; rcases Nat.lt_or_ge j k with h | h; (rw [show upd AR1 k _ j = AR1 j from if_neg (by first | with_reducible assumption | omega)]; exact har j h); (rw [show j = k by omega, up_at]; first | exact ⟨fun _ => rfl, fun h9 => absurd (Or.inr (by first | with_reducible assumption | assumption)) h9⟩ | exact ⟨fun h9 => absurd (h9.resolve_left id) (by first | with_reducible assumption | assumption), fun _ => rfl⟩)) hP hD hS (lv_sub hl [0, 1, 2, 3, 4, 5] rfl)
          · have c_30 : arE n rg k := zp_1 c_30
            refine lv_iconst (v := (-1)) hx hb dX4_cornerThatGoes_62 rfl ?_
            refine lv_goto (tgt := 73) hx hb dX4_cornerThatGoes_63 rfl ?_
            have b9_32 : k < 40 := by omega
            refine z_iast hx hb hK hP hD hS 12 0 rfl rfl (e := k) (x := (-1)) rfl b9_32 (Nat.le_of_ble_eq_true rfl) dX4_cornerThatGoes_73 (fun H locs hP hD hS => ?_)
            obtain ⟨hP, hD⟩ : zPD (dC, dI) classes A ([(oc3 lw (.ref dr) (.ref tg) (.ref wy) (.ref br) (.ref bo) (.ref aa)), (oc6 tg (.ref tx) (.ref ty) (nI nt) rt), (oa tx cI 3 TX), (oa ty cI 3 TY), (oc6 wy (.ref wx) (.ref wz) (nI nw) rw), (oa wx cI 2 WX), (oa wz cI 2 WY), (oc6 dr (.ref dx) (.ref dy) (nI nd) rd), (oa dx cI cd P), (oa dy cI cd Q), (oc0 br b1 b2 b3 b4), (oc0 bo b5 b6 b7 b8), (oa aa cI 40 (upd AR1 k (-1))), (oc7 sh (.ref fa) (nI ft)), (oq fa cF 200 FA), (oc1 fe rk9 wd9 tw9 pa9 pb9 (.ref lo) (.ref lk) fm9), (oc4 lk kd9 st9 (.ref r) gb9 jt9 we9), (oc6 r (.ref rx) (.ref ry) (nI n) rg), (oa rx cI cap X), (oa ry cI cap Y)] ++ va_pl L f) H := ⟨hP, hD⟩
            refine lv_iinc (v := nI (k + 1)) (lv' := [(5, .int (nI (k + 1))), (4, .ref r), (0, .ref lw), (1, .ref sh), (2, .ref fe), (3, .int lim)]) hx hb dX4_cornerThatGoes_74 hl (k := 0) rfl (nI_add k 1) (Nat.le_of_ble_eq_true rfl) rfl (fun ls hl => ?_)
            refine lv_goto (tgt := 36) hx hb dX4_cornerThatGoes_77 rfl ?_
            exact ih_36 (k + 1) (upd AR1 k (-1)) H locs ls (by first | with_reducible assumption | omega) (by first | with_reducible assumption | omega) (by intro j hj; rcases Nat.lt_or_ge j k with h | h; (rw [show upd AR1 k _ j = AR1 j from if_neg (by first | with_reducible assumption | omega)]; exact har j h); (rw [show j = k by omega, up_at]; first | exact ⟨fun _ => rfl, fun h9 => absurd (Or.inr (by first | with_reducible assumption | assumption)) h9⟩ | exact ⟨fun h9 => absurd (h9.resolve_left id) (by first | with_reducible assumption | assumption), fun _ => rfl⟩)) hP hD hS (lv_sub hl [0, 1, 2, 3, 4, 5] rfl)
    exact hl_36 _ 0 AR s.heap [] ls (Nat.lt_succ_self _) (by first | with_reducible assumption | omega) (by intro j hj; omega) hP hD hS (lv_sub hl [0, 1, 2, 3, 4, 5] rfl)
  · have c_1 : ¬ rg.toInt = 0 := zc_ne rfl rfl c_1
    refine lv_aload hx hb dX4_cornerThatGoes_22 (lv_at hl 0 rfl) ?_
    refine va_get (D := (dC, dI)) (ci := 6) (v := .int (nI n)) (C := RX7) (T := TX7) (N := 4) hx hb hts inX7 hown hK hP 17 rfl rfl 2 (Nat.le_of_ble_eq_true rfl) (hts _ mw_176) (fun _ h9 => h9) rfl dX4_cornerThatGoes_24 ?_
    refine lv_iconst (v := 3) hx hb dX4_cornerThatGoes_27 rfl ?_
    have b9_34 : n < 2147483648 := by omega
    refine lv_icmp_gt (tgt := 33) hx hb dX4_cornerThatGoes_28 rfl (fun c_33 => ?_) (fun c_33 => ?_)
    · have c_33 : 3 < ((n : Nat) : Int) := zc_lt rfl (nI_toInt b9_34) c_33
      refine lv_iconst (v := 0) hx hb dX4_cornerThatGoes_33 rfl ?_
      refine lv_istore (lv' := [(5, .int 0), (4, .ref r), (0, .ref lw), (1, .ref sh), (2, .ref fe), (3, .int lim)]) hx hb dX4_cornerThatGoes_34 hl (Nat.le_of_ble_eq_true rfl) rfl (fun ls hl => ?_)
      have hl_36 : ∀ (n9 : Nat) (k : Nat) (AR1 : Nat → Int32) (H : Heap) (locs : List Loc) (ls : Array Slot), n - k < n9 → (k ≤ n) → (∀ j, j < k → ((False ∨ arE n rg j) → AR1 j = -1) ∧ (¬ (False ∨ arE n rg j) → AR1 j = nI (arT n X Y j))) → va_P (dC, dI) classes ([(oc3 lw (.ref dr) (.ref tg) (.ref wy) (.ref br) (.ref bo) (.ref aa)), (oc6 tg (.ref tx) (.ref ty) (nI nt) rt), (oa tx cI 3 TX), (oa ty cI 3 TY), (oc6 wy (.ref wx) (.ref wz) (nI nw) rw), (oa wx cI 2 WX), (oa wz cI 2 WY), (oc6 dr (.ref dx) (.ref dy) (nI nd) rd), (oa dx cI cd P), (oa dy cI cd Q), (oc0 br b1 b2 b3 b4), (oc0 bo b5 b6 b7 b8), (oa aa cI 40 AR1), (oc7 sh (.ref fa) (nI ft)), (oq fa cF 200 FA), (oc1 fe rk9 wd9 tw9 pa9 pb9 (.ref lo) (.ref lk) fm9), (oc4 lk kd9 st9 (.ref r) gb9 jt9 we9), (oc6 r (.ref rx) (.ref ry) (nI n) rg), (oa rx cI cap X), (oa ry cI cap Y)] ++ va_pl L f) H → va_D A ([(oc3 lw (.ref dr) (.ref tg) (.ref wy) (.ref br) (.ref bo) (.ref aa)), (oc6 tg (.ref tx) (.ref ty) (nI nt) rt), (oa tx cI 3 TX), (oa ty cI 3 TY), (oc6 wy (.ref wx) (.ref wz) (nI nw) rw), (oa wx cI 2 WX), (oa wz cI 2 WY), (oc6 dr (.ref dx) (.ref dy) (nI nd) rd), (oa dx cI cd P), (oa dy cI cd Q), (oc0 br b1 b2 b3 b4), (oc0 bo b5 b6 b7 b8), (oa aa cI 40 AR1), (oc7 sh (.ref fa) (nI ft)), (oq fa cF 200 FA), (oc1 fe rk9 wd9 tw9 pa9 pb9 (.ref lo) (.ref lk) fm9), (oc4 lk kd9 st9 (.ref r) gb9 jt9 we9), (oc6 r (.ref rx) (.ref ry) (nI n) rg), (oa rx cI cap X), (oa ry cI cap Y)] ++ va_pl L f) → va_S A s.heap H locs → lv_has ls 7 [(5, .int (nI k)), (4, .ref r), (0, .ref lw), (1, .ref sh), (2, .ref fe), (3, .int lim)] → W p l e ((headSpec (.code yX4_cornerThatGoes cX4_cornerThatGoes 7 (some .int) :: ws0) ({ frames := 5, cells := 0, slots := 0, locals := 131 } : Room)).room) s m ([.ref lw, .ref sh, .ref fe, .int lim] : List Value).toArray below meth c H locs 0 0 Q9 (F0 m 36 ls []) := by
        intro n9
        induction n9 with
        | zero => intro k AR1 H locs ls hm; exact absurd hm (Nat.not_lt_zero _)
        | succ n9 ih_36 =>
          intro k AR1 H locs ls hm hk har hP hD hS hl
          refine lv_iload hx hb dX4_cornerThatGoes_36 (lv_at hl 0 rfl) ?_
          refine lv_aload hx hb dX4_cornerThatGoes_38 (lv_at hl 1 rfl) ?_
          refine va_get (D := (dC, dI)) (ci := 6) (v := .int (nI n)) (C := RX7) (T := TX7) (N := 4) hx hb hts inX7 hown hK hP 17 rfl rfl 2 (Nat.le_of_ble_eq_true rfl) (hts _ mw_176) (fun _ h9 => h9) rfl dX4_cornerThatGoes_40 ?_
          have b9_36 : k < 2147483648 := by omega
          refine lv_icmp_ge (tgt := 80) hx hb dX4_cornerThatGoes_43 rfl (fun c_35 => ?_) (fun c_35 => ?_)
          · have c_35 : ((n : Nat) : Int) ≤ ((k : Nat) : Int) := zc_le (nI_toInt b9_34) (nI_toInt b9_36) c_35
            refine lv_iconst (v := 0) hx hb dX4_cornerThatGoes_80 rfl ?_
            refine lv_istore (lv' := [(5, .int 0), (4, .ref r), (0, .ref lw), (1, .ref sh), (2, .ref fe), (3, .int lim)]) hx hb dX4_cornerThatGoes_81 hl (Nat.le_of_ble_eq_true rfl) rfl (fun ls hl => ?_)
            have hl_83 : ∀ (n9 : Nat) (t5 : Nat) (R : Nat → Prop) (AR1 : Nat → Int32) (nt1 : Nat) (TX1 : Nat → Int32) (TY1 : Nat → Int32) (rt1 : Int32) (nw1 : Nat) (WX1 : Nat → Int32) (WY1 : Nat → Int32) (rw1 : Int32) (nd1 : Nat) (P1 : Nat → Int32) (Q1 : Nat → Int32) (rd1 : Int32) (d5 : Int32) (d6 : Int32) (d7 : Int32) (d8 : Int32) (e5 : Int32) (e6 : Int32) (e7 : Int32) (e8 : Int32) (H : Heap) (locs : List Loc) (ls : Array Slot), n - t5 < n9 → (t5 ≤ n) → (arI n X Y rg R AR1) → (∀ j, j < n → R j → ¬ goK ft st tn kd mn cx cy f0 n X Y rg lim j) → (t5 ≤ cntP R n) → va_P (dC, dI) classes ([(oc3 lw (.ref dr) (.ref tg) (.ref wy) (.ref br) (.ref bo) (.ref aa)), (oc6 tg (.ref tx) (.ref ty) (nI nt1) rt1), (oa tx cI 3 TX1), (oa ty cI 3 TY1), (oc6 wy (.ref wx) (.ref wz) (nI nw1) rw1), (oa wx cI 2 WX1), (oa wz cI 2 WY1), (oc6 dr (.ref dx) (.ref dy) (nI nd1) rd1), (oa dx cI cd P1), (oa dy cI cd Q1), (oc0 br d5 d6 d7 d8), (oc0 bo e5 e6 e7 e8), (oa aa cI 40 AR1), (oc7 sh (.ref fa) (nI ft)), (oq fa cF 200 FA), (oc1 fe rk9 wd9 tw9 pa9 pb9 (.ref lo) (.ref lk) fm9), (oc4 lk kd9 st9 (.ref r) gb9 jt9 we9), (oc6 r (.ref rx) (.ref ry) (nI n) rg), (oa rx cI cap X), (oa ry cI cap Y)] ++ va_pl L f) H → va_D A ([(oc3 lw (.ref dr) (.ref tg) (.ref wy) (.ref br) (.ref bo) (.ref aa)), (oc6 tg (.ref tx) (.ref ty) (nI nt1) rt1), (oa tx cI 3 TX1), (oa ty cI 3 TY1), (oc6 wy (.ref wx) (.ref wz) (nI nw1) rw1), (oa wx cI 2 WX1), (oa wz cI 2 WY1), (oc6 dr (.ref dx) (.ref dy) (nI nd1) rd1), (oa dx cI cd P1), (oa dy cI cd Q1), (oc0 br d5 d6 d7 d8), (oc0 bo e5 e6 e7 e8), (oa aa cI 40 AR1), (oc7 sh (.ref fa) (nI ft)), (oq fa cF 200 FA), (oc1 fe rk9 wd9 tw9 pa9 pb9 (.ref lo) (.ref lk) fm9), (oc4 lk kd9 st9 (.ref r) gb9 jt9 we9), (oc6 r (.ref rx) (.ref ry) (nI n) rg), (oa rx cI cap X), (oa ry cI cap Y)] ++ va_pl L f) → va_S A s.heap H locs → lv_has ls 7 [(5, .int (nI t5)), (4, .ref r), (0, .ref lw), (1, .ref sh), (2, .ref fe), (3, .int lim)] → W p l e ((headSpec (.code yX4_cornerThatGoes cX4_cornerThatGoes 7 (some .int) :: ws0) ({ frames := 5, cells := 0, slots := 0, locals := 131 } : Room)).room) s m ([.ref lw, .ref sh, .ref fe, .int lim] : List Value).toArray below meth c H locs 0 0 Q9 (F0 m 83 ls []) := by
              intro n9
              induction n9 with
              | zero => intro t5 R AR1 nt1 TX1 TY1 rt1 nw1 WX1 WY1 rw1 nd1 P1 Q1 rd1 d5 d6 d7 d8 e5 e6 e7 e8 H locs ls hm; exact absurd hm (Nat.not_lt_zero _)
              | succ n9 ih_83 =>
                intro t5 R AR1 nt1 TX1 TY1 rt1 nw1 WX1 WY1 rw1 nd1 P1 Q1 rd1 d5 d6 d7 d8 e5 e6 e7 e8 H locs ls hm ht5 har hR hct hP hD hS hl
                refine lv_iload hx hb dX4_cornerThatGoes_83 (lv_at hl 0 rfl) ?_
                refine lv_aload hx hb dX4_cornerThatGoes_85 (lv_at hl 1 rfl) ?_
                refine va_get (D := (dC, dI)) (ci := 6) (v := .int (nI n)) (C := RX7) (T := TX7) (N := 4) hx hb hts inX7 hown hK hP 17 rfl rfl 2 (Nat.le_of_ble_eq_true rfl) (hts _ mw_176) (fun _ h9 => h9) rfl dX4_cornerThatGoes_87 ?_
                have b9_38 : t5 < 2147483648 := by omega
                refine lv_icmp_ge (tgt := 184) hx hb dX4_cornerThatGoes_90 rfl (fun c_37 => ?_) (fun c_37 => ?_)
                · have c_37 : ((n : Nat) : Int) ≤ ((t5 : Nat) : Int) := zc_le (nI_toInt b9_34) (nI_toInt b9_38) c_37
                  refine lv_iconst (v := (-1)) hx hb dX4_cornerThatGoes_184 rfl ?_
                  have hy9 := go_all (lim := lim) hR (by omega : n ≤ cntP R n)
                  obtain ⟨hP9, hD9⟩ := zq_part (cx := [(oc3 lw (.ref dr) (.ref tg) (.ref wy) (.ref br) (.ref bo) (.ref aa)), (oc6 tg (.ref tx) (.ref ty) (nI nt1) rt1), (oa tx cI 3 TX1), (oa ty cI 3 TY1), (oc6 wy (.ref wx) (.ref wz) (nI nw1) rw1), (oa wx cI 2 WX1), (oa wz cI 2 WY1), (oc6 dr (.ref dx) (.ref dy) (nI nd1) rd1), (oa dx cI cd P1), (oa dy cI cd Q1), (oc0 br d5 d6 d7 d8), (oc0 bo e5 e6 e7 e8), (oa aa cI 40 AR1), (oc7 sh (.ref fa) (nI ft)), (oq fa cF 200 FA), (oc1 fe rk9 wd9 tw9 pa9 pb9 (.ref lo) (.ref lk) fm9), (oc4 lk kd9 st9 (.ref r) gb9 jt9 we9), (oc6 r (.ref rx) (.ref ry) (nI n) rg), (oa rx cI cap X), (oa ry cI cap Y)]) hP hD [0, 1, 2, 3, 4, 5, 6, 7, 8, 9, 10, 11, 12, 13, 14, 15, 16, 17, 18, 19] rfl rfl
                  rw [hQ9]
                  exact W.iret (v := (-1)) hx hb hr (fun t ht hW => ⟨⟨_, rfl, (-1), nt1, TX1, TY1, rt1, nw1, WX1, WY1, rw1, nd1, P1, Q1, rd1, d5, d6, d7, d8, e5, e6, e7, e8, AR1, rfl, (hy9), by rw [ht]; exact hP9, hD9⟩, hS.F ht⟩) hS.2.2 dX4_cornerThatGoes_185
                · have c_37 : ((t5 : Nat) : Int) < ((n : Nat) : Int) := zc_nle (nI_toInt b9_34) (nI_toInt b9_38) c_37
                  refine lv_aload_n hx hb dX4_cornerThatGoes_93 rfl (lv_at hl 2 rfl) ?_
                  refine lv_aload hx hb dX4_cornerThatGoes_94 (lv_at hl 1 rfl) ?_
                  refine va_get (D := (dC, dI)) (ci := 6) (v := .int (nI n)) (C := RX7) (T := TX7) (N := 4) hx hb hts inX7 hown hK hP 17 rfl rfl 2 (Nat.le_of_ble_eq_true rfl) (hts _ mw_176) (fun _ h9 => h9) rfl dX4_cornerThatGoes_96 ?_
                  refine lv_iload_n hx hb dX4_cornerThatGoes_99 rfl (lv_at hl 5 rfl) ?_
                  obtain ⟨hPc, hDc, hFc⟩ := zc_sub (wc := [(oc3 lw (.ref dr) (.ref tg) (.ref wy) (.ref br) (.ref bo) (.ref aa)), (oa aa cI 40 AR1)]) hP hD hS hA [0, 12] rfl rfl
                  refine zcalle (va_runV (As := [.int (nI n), .int lim]) (rest := []) ⟨hx, hb, hml, hown, hts⟩ (k_Law_leastArea l dC dI cI cZ cF H.size lw dr tg wy br bo aa n AR1 lim (by first | with_reducible assumption | omega)) (csV_71 hts rfl rfl ⟨Nat.le_of_ble_eq_true rfl, Nat.le_of_ble_eq_true rfl⟩) (zPV2 (q0 := 0) (ci := 3) hPc hDc hK hXN rfl rfl) rfl rfl hl.1 rfl (lv_room (Nat.le_of_ble_eq_true rfl)) dX4_cornerThatGoes_100 ⟨Nat.le_of_ble_eq_true rfl, Nat.le_of_ble_eq_true rfl⟩) hS hFc hFc (fun v9 t H locs ht hB hk1 hS => ?_)
                  obtain ⟨zb, rfl, hat, hP1, hD1⟩ := hB
                  refine W.eq (g2 := F0 m 103 ls [.int zb]) rfl ?_
                  rw [ht] at hP1
                  obtain ⟨hP, hD⟩ := zkQ (W2 := [(oc3 lw (.ref dr) (.ref tg) (.ref wy) (.ref br) (.ref bo) (.ref aa)), (oc6 tg (.ref tx) (.ref ty) (nI nt1) rt1), (oa tx cI 3 TX1), (oa ty cI 3 TY1), (oc6 wy (.ref wx) (.ref wz) (nI nw1) rw1), (oa wx cI 2 WX1), (oa wz cI 2 WY1), (oc6 dr (.ref dx) (.ref dy) (nI nd1) rd1), (oa dx cI cd P1), (oa dy cI cd Q1), (oc0 br d5 d6 d7 d8), (oc0 bo e5 e6 e7 e8), (oa aa cI 40 AR1), (oc7 sh (.ref fa) (nI ft)), (oq fa cF 200 FA), (oc1 fe rk9 wd9 tw9 pa9 pb9 (.ref lo) (.ref lk) fm9), (oc4 lk kd9 st9 (.ref r) gb9 jt9 we9), (oc6 r (.ref rx) (.ref ry) (nI n) rg), (oa rx cI cap X), (oa ry cI cap Y)]) hP hD [0, 12] [1, 2, 3, 4, 5, 6, 7, 8, 9, 10, 11, 13, 14, 15, 16, 17, 18, 19] [1, 2, 3, 4, 5, 6, 7, 8, 9, 10, 11, 13, 14, 15, 16, 17, 18, 19] [0, 12] [18, 0, 1, 2, 3, 4, 5, 6, 7, 8, 9, 10, 19, 11, 12, 13, 14, 15, 16, 17] 20 rfl rfl rfl rfl rfl rfl rfl rfl rfl hk1 hFc hP1 hD1
                  clear hk1 hPc hDc hFc hP1 hD1 ht
                  refine lv_istore (lv' := [(6, .int zb), (5, .int (nI t5)), (4, .ref r), (0, .ref lw), (1, .ref sh), (2, .ref fe), (3, .int lim)]) hx hb dX4_cornerThatGoes_103 hl (Nat.le_of_ble_eq_true rfl) rfl (fun ls hl => ?_)
                  refine lv_iload hx hb dX4_cornerThatGoes_105 (lv_at hl 0 rfl) ?_
                  refine lv_iconst (v := (-1)) hx hb dX4_cornerThatGoes_107 rfl ?_
                  refine lv_icmp_ne (tgt := 113) hx hb dX4_cornerThatGoes_108 rfl (fun c_39 => ?_) (fun c_39 => ?_)
                  · have c_39 : ¬ zb.toInt = (-1) := zc_ne rfl rfl c_39
                    obtain ⟨b9, hz9, hbk, hbF, hbm⟩ := bst_get hat (by omega)
                    have hF9 := (arI_f hp har hbk).mp (Classical.not_not.mp hbF)
                    refine lv_aload_n hx hb dX4_cornerThatGoes_113 rfl (lv_at hl 3 rfl) ?_
                    refine va_get (D := (dC, dI)) (ci := 3) (v := .ref dr) (C := RX4) (T := TX4) (N := 6) hx hb hts inX4 hown hK hP 0 rfl rfl 0 (Nat.le_of_ble_eq_true rfl) (hts _ mw_219) (fun _ h9 => h9) rfl dX4_cornerThatGoes_114 ?_
                    refine lv_aload hx hb dX4_cornerThatGoes_117 (lv_at hl 2 rfl) ?_
                    obtain ⟨hPc, hDc, hFc⟩ := zc_sub (wc := [(oc6 dr (.ref dx) (.ref dy) (nI nd1) rd1), (oa dx cI cd P1), (oa dy cI cd Q1), (oc6 r (.ref rx) (.ref ry) (nI n) rg), (oa rx cI cap X), (oa ry cI cap Y)]) hP hD hS hA [7, 8, 9, 17, 18, 19] rfl rfl
                    refine zcall (st1 := []) (va_runV (As := [.ref r]) (rest := []) ⟨hx, hb, hml, hown, hts⟩ (k_Row_copyFrom l dC dI cI cZ cF H.size dr dx dy nd1 cd P1 Q1 rd1 r rx ry n cap X Y rg (by first | with_reducible assumption | omega) (by first | with_reducible assumption | omega) (by first | with_reducible assumption | omega) (by first | with_reducible assumption | omega) (hrg)) (csV_72 hts rfl rfl ⟨Nat.le_of_ble_eq_true rfl, Nat.le_of_ble_eq_true rfl⟩) (zPV2 (q0 := 0) (ci := 6) hPc hDc hK hXN rfl rfl) rfl rfl hl.1 rfl (lv_room (Nat.le_of_ble_eq_true rfl)) dX4_cornerThatGoes_119 ⟨Nat.le_of_ble_eq_true rfl, Nat.le_of_ble_eq_true rfl⟩) hS hFc hFc rfl (fun t H locs ht hB hk1 hS => ?_)
                    obtain ⟨P2, Q2, hcp, hP1, hD1⟩ := hB
                    rw [ht] at hP1
                    obtain ⟨hP, hD⟩ := zkQ (W2 := [(oc3 lw (.ref dr) (.ref tg) (.ref wy) (.ref br) (.ref bo) (.ref aa)), (oc6 tg (.ref tx) (.ref ty) (nI nt1) rt1), (oa tx cI 3 TX1), (oa ty cI 3 TY1), (oc6 wy (.ref wx) (.ref wz) (nI nw1) rw1), (oa wx cI 2 WX1), (oa wz cI 2 WY1), (oc6 dr (.ref dx) (.ref dy) (nI n) rg), (oa dx cI cd P2), (oa dy cI cd Q2), (oc0 br d5 d6 d7 d8), (oc0 bo e5 e6 e7 e8), (oa aa cI 40 AR1), (oc7 sh (.ref fa) (nI ft)), (oq fa cF 200 FA), (oc1 fe rk9 wd9 tw9 pa9 pb9 (.ref lo) (.ref lk) fm9), (oc4 lk kd9 st9 (.ref r) gb9 jt9 we9), (oc6 r (.ref rx) (.ref ry) (nI n) rg), (oa rx cI cap X), (oa ry cI cap Y)]) hP hD [7, 8, 9, 17, 18, 19] [0, 1, 2, 3, 4, 5, 6, 10, 11, 12, 13, 14, 15, 16] [0, 1, 2, 3, 4, 5, 6, 10, 11, 12, 13, 14, 15, 16] [7, 8, 9, 17, 18, 19] [0, 1, 2, 3, 4, 5, 6, 14, 15, 16, 7, 8, 9, 10, 11, 12, 13, 17, 18, 19] 20 rfl rfl rfl rfl rfl rfl rfl rfl rfl hk1 hFc hP1 hD1
                    clear hk1 hPc hDc hFc hP1 hD1 ht
                    refine lv_aload_n hx hb dX4_cornerThatGoes_122 rfl (lv_at hl 3 rfl) ?_
                    refine va_get (D := (dC, dI)) (ci := 3) (v := .ref dr) (C := RX4) (T := TX4) (N := 6) hx hb hts inX4 hown hK hP 0 rfl rfl 0 (Nat.le_of_ble_eq_true rfl) (hts _ mw_219) (fun _ h9 => h9) rfl dX4_cornerThatGoes_123 ?_
                    refine lv_iload hx hb dX4_cornerThatGoes_126 (lv_at hl 0 rfl) ?_
                    refine zz_i (v := nI b9) (hz9) ?_
                    obtain ⟨hPc, hDc, hFc⟩ := zc_sub (wc := [(oc6 dr (.ref dx) (.ref dy) (nI n) rg), (oa dx cI cd P2), (oa dy cI cd Q2)]) hP hD hS hA [7, 8, 9] rfl rfl
                    refine zcall (st1 := []) (va_runV (As := [.int (nI b9)]) (rest := []) ⟨hx, hb, hml, hown, hts⟩ (k_Row_cut l dC dI cI cZ cF H.size dr dx dy n cd P2 Q2 rg b9 (by first | with_reducible assumption | omega) (by first | with_reducible assumption | omega) (by first | with_reducible assumption | omega)) (csV_73 hts rfl rfl ⟨Nat.le_of_ble_eq_true rfl, Nat.le_of_ble_eq_true rfl⟩) (zPV2 (q0 := 0) (ci := 6) hPc hDc hK hXN rfl rfl) rfl rfl hl.1 rfl (lv_room (Nat.le_of_ble_eq_true rfl)) dX4_cornerThatGoes_128 ⟨Nat.le_of_ble_eq_true rfl, Nat.le_of_ble_eq_true rfl⟩) hS hFc hFc rfl (fun t H locs ht hB hk1 hS => ?_)
                    obtain ⟨P3, Q3, hc1, hc2, hP1, hD1⟩ := hB
                    rw [ht] at hP1
                    obtain ⟨hP, hD⟩ := zkQ (W2 := [(oc3 lw (.ref dr) (.ref tg) (.ref wy) (.ref br) (.ref bo) (.ref aa)), (oc6 tg (.ref tx) (.ref ty) (nI nt1) rt1), (oa tx cI 3 TX1), (oa ty cI 3 TY1), (oc6 wy (.ref wx) (.ref wz) (nI nw1) rw1), (oa wx cI 2 WX1), (oa wz cI 2 WY1), (oc6 dr (.ref dx) (.ref dy) (nI (n - 1)) rg), (oa dx cI cd P3), (oa dy cI cd Q3), (oc0 br d5 d6 d7 d8), (oc0 bo e5 e6 e7 e8), (oa aa cI 40 AR1), (oc7 sh (.ref fa) (nI ft)), (oq fa cF 200 FA), (oc1 fe rk9 wd9 tw9 pa9 pb9 (.ref lo) (.ref lk) fm9), (oc4 lk kd9 st9 (.ref r) gb9 jt9 we9), (oc6 r (.ref rx) (.ref ry) (nI n) rg), (oa rx cI cap X), (oa ry cI cap Y)]) hP hD [7, 8, 9] [0, 1, 2, 3, 4, 5, 6, 10, 11, 12, 13, 14, 15, 16, 17, 18, 19] [0, 1, 2, 3, 4, 5, 6, 10, 11, 12, 13, 14, 15, 16, 17, 18, 19] [7, 8, 9] [0, 1, 2, 3, 4, 5, 6, 17, 18, 19, 7, 8, 9, 10, 11, 12, 13, 14, 15, 16] 20 rfl rfl rfl rfl rfl rfl rfl rfl rfl hk1 hFc hP1 hD1
                    clear hk1 hPc hDc hFc hP1 hD1 ht
                    have hcut := ct_cg hcp hc1 hc2 hbk
                    refine lv_aload_n hx hb dX4_cornerThatGoes_131 rfl (lv_at hl 3 rfl) ?_
                    refine lv_aload_n hx hb dX4_cornerThatGoes_132 rfl (lv_at hl 4 rfl) ?_
                    refine lv_aload_n hx hb dX4_cornerThatGoes_133 rfl (lv_at hl 5 rfl) ?_
                    refine lv_aload hx hb dX4_cornerThatGoes_134 (lv_at hl 2 rfl) ?_
                    refine va_get (D := (dC, dI)) (ci := 6) (v := .ref rx) (C := RX7) (T := TX7) (N := 4) hx hb hts inX7 hown hK hP 17 rfl rfl 0 (Nat.le_of_ble_eq_true rfl) (hts _ mw_163) (fun _ h9 => h9) rfl dX4_cornerThatGoes_136 ?_
                    refine lv_iload hx hb dX4_cornerThatGoes_139 (lv_at hl 0 rfl) ?_
                    refine zz_i (v := nI b9) (hz9) ?_
                    have b9_40 : b9 < cap := by omega
                    have b9_41 : cap < 2147483648 := by omega
                    refine z_iald hx hb hK hP 18 0 rfl rfl (e := b9) rfl b9_40 b9_41 dX4_cornerThatGoes_141 ?_
                    refine lv_aload hx hb dX4_cornerThatGoes_142 (lv_at hl 2 rfl) ?_
                    refine va_get (D := (dC, dI)) (ci := 6) (v := .ref ry) (C := RX7) (T := TX7) (N := 4) hx hb hts inX7 hown hK hP 17 rfl rfl 1 (Nat.le_of_ble_eq_true rfl) (hts _ mw_170) (fun _ h9 => h9) rfl dX4_cornerThatGoes_144 ?_
                    refine lv_iload hx hb dX4_cornerThatGoes_147 (lv_at hl 0 rfl) ?_
                    refine zz_i (v := nI b9) (hz9) ?_
                    refine z_iald hx hb hK hP 19 0 rfl rfl (e := b9) rfl b9_40 b9_41 dX4_cornerThatGoes_149 ?_
                    obtain ⟨hPc, hDc, hFc⟩ := zc_part (cx := [(oc3 lw (.ref dr) (.ref tg) (.ref wy) (.ref br) (.ref bo) (.ref aa)), (oc7 sh (.ref fa) (nI ft)), (oq fa cF 200 FA), (oc1 fe rk9 wd9 tw9 pa9 pb9 (.ref lo) (.ref lk) fm9), (oc4 lk kd9 st9 (.ref r) gb9 jt9 we9)]) hP hD hS hA [0, 13, 14, 15, 16] rfl rfl
                    refine zcall (st1 := [.int (pI (∀ q, q < ft → (q ≠ f0 → lvF ft st tn q → ¬ onF kd mn cx cy q (X b9).toInt (Y b9).toInt)))]) (va_runV (As := [.ref sh, .ref fe, .int (X b9), .int (Y b9)]) (rest := []) ⟨hx, hb, hml, hown, hts⟩ (k_Law_isBare l dC dI cI cZ cF H.size lw dr tg wy br bo aa sh fa ft FA fe lo rk9 wd9 tw9 pa9 pb9 lk kd9 st9 gb9 jt9 we9 r f0 fm9 L f kd st tn mn cx cy (X b9) (Y b9) (by first | with_reducible assumption | omega) (by first | with_reducible assumption | omega) (hFA) (hs1) (by first | with_reducible assumption | assumption) (by first | with_reducible assumption | assumption) (by first | with_reducible assumption | assumption) ((hp b9 hbk).1) ((hp b9 hbk).2)) (csV_74 hts rfl rfl ⟨Nat.le_of_ble_eq_true rfl, Nat.le_of_ble_eq_true rfl⟩) (zPV2 (q0 := 0) (ci := 3) hPc hDc hK hXN rfl rfl) rfl rfl hl.1 rfl (lv_room (Nat.le_of_ble_eq_true rfl)) dX4_cornerThatGoes_150 ⟨Nat.le_of_ble_eq_true rfl, Nat.le_of_ble_eq_true rfl⟩) hS hFc hFc rfl (fun t H locs ht hB hk1 hS => ?_)
                    obtain ⟨hP1, hD1⟩ := hB
                    rw [ht] at hP1
                    obtain ⟨hP, hD⟩ := zkP (W2 := [(oc3 lw (.ref dr) (.ref tg) (.ref wy) (.ref br) (.ref bo) (.ref aa)), (oc6 tg (.ref tx) (.ref ty) (nI nt1) rt1), (oa tx cI 3 TX1), (oa ty cI 3 TY1), (oc6 wy (.ref wx) (.ref wz) (nI nw1) rw1), (oa wx cI 2 WX1), (oa wz cI 2 WY1), (oc6 dr (.ref dx) (.ref dy) (nI (n - 1)) rg), (oa dx cI cd P3), (oa dy cI cd Q3), (oc0 br d5 d6 d7 d8), (oc0 bo e5 e6 e7 e8), (oa aa cI 40 AR1), (oc7 sh (.ref fa) (nI ft)), (oq fa cF 200 FA), (oc1 fe rk9 wd9 tw9 pa9 pb9 (.ref lo) (.ref lk) fm9), (oc4 lk kd9 st9 (.ref r) gb9 jt9 we9), (oc6 r (.ref rx) (.ref ry) (nI n) rg), (oa rx cI cap X), (oa ry cI cap Y)]) hP hD [0, 13, 14, 15, 16] [1, 2, 3, 4, 5, 6, 7, 8, 9, 10, 11, 12, 17, 18, 19] [1, 2, 3, 4, 5, 6, 7, 8, 9, 10, 11, 12, 17, 18, 19] [0, 13, 14, 15, 16] [15, 0, 1, 2, 3, 4, 5, 6, 7, 8, 9, 10, 11, 16, 17, 18, 19, 12, 13, 14] 20 rfl rfl rfl rfl rfl rfl rfl rfl rfl hk1 hFc hP1 hD1
                    clear hk1 hPc hDc hFc hP1 hD1 ht
                    refine zz_i (v := pI (bareK ft st tn kd mn cx cy f0 (X b9).toInt (Y b9).toInt)) (rfl) ?_
                    refine lv_if_eq (tgt := 170) hx hb dX4_cornerThatGoes_153 rfl (fun c_42 => ?_) (fun c_42 => ?_)
                    · have c_42 : ¬ (bareK ft st tn kd mn cx cy f0 (X b9).toInt (Y b9).toInt) := zp_0 c_42
                      have hbad : ¬ goK ft st tn kd mn cx cy f0 n X Y rg lim b9 := fun h9 => (by first | exact absurd h9.2.2.1 (by first | with_reducible assumption | assumption) | exact absurd h9.2.2.2 (by first | with_reducible assumption | assumption))
                      refine lv_aload_n hx hb dX4_cornerThatGoes_170 rfl (lv_at hl 3 rfl) ?_
                      refine va_get (D := (dC, dI)) (ci := 3) (v := .ref aa) (C := RX4) (T := TX4) (N := 6) hx hb hts inX4 hown hK hP 0 rfl rfl 5 (Nat.le_of_ble_eq_true rfl) (hts _ mw_225) (fun _ h9 => h9) rfl dX4_cornerThatGoes_171 ?_
                      refine lv_iload hx hb dX4_cornerThatGoes_174 (lv_at hl 0 rfl) ?_
                      refine zz_i (v := nI b9) (hz9) ?_
                      refine lv_iconst (v := (-1)) hx hb dX4_cornerThatGoes_176 rfl ?_
                      have b9_43 : b9 < 40 := by omega
                      refine z_iast hx hb hK hP hD hS 12 0 rfl rfl (e := b9) (x := (-1)) rfl b9_43 (Nat.le_of_ble_eq_true rfl) dX4_cornerThatGoes_177 (fun H locs hP hD hS => ?_)
                      obtain ⟨hP, hD⟩ : zPD (dC, dI) classes A ([(oc3 lw (.ref dr) (.ref tg) (.ref wy) (.ref br) (.ref bo) (.ref aa)), (oc6 tg (.ref tx) (.ref ty) (nI nt1) rt1), (oa tx cI 3 TX1), (oa ty cI 3 TY1), (oc6 wy (.ref wx) (.ref wz) (nI nw1) rw1), (oa wx cI 2 WX1), (oa wz cI 2 WY1), (oc6 dr (.ref dx) (.ref dy) (nI (n - 1)) rg), (oa dx cI cd P3), (oa dy cI cd Q3), (oc0 br d5 d6 d7 d8), (oc0 bo e5 e6 e7 e8), (oa aa cI 40 (upd AR1 b9 (-1))), (oc7 sh (.ref fa) (nI ft)), (oq fa cF 200 FA), (oc1 fe rk9 wd9 tw9 pa9 pb9 (.ref lo) (.ref lk) fm9), (oc4 lk kd9 st9 (.ref r) gb9 jt9 we9), (oc6 r (.ref rx) (.ref ry) (nI n) rg), (oa rx cI cap X), (oa ry cI cap Y)] ++ va_pl L f) H := ⟨hP, hD⟩
                      refine lv_iinc (v := nI (t5 + 1)) (lv' := [(5, .int (nI (t5 + 1))), (6, .int zb), (4, .ref r), (0, .ref lw), (1, .ref sh), (2, .ref fe), (3, .int lim)]) hx hb dX4_cornerThatGoes_178 hl (k := 1) rfl (nI_add t5 1) (Nat.le_of_ble_eq_true rfl) rfl (fun ls hl => ?_)
                      refine lv_goto (tgt := 83) hx hb dX4_cornerThatGoes_181 rfl ?_
                      exact ih_83 (t5 + 1) (fun j => R j ∨ j = b9) (upd AR1 b9 (-1)) nt1 TX1 TY1 rt1 nw1 WX1 WY1 rw1 (n - 1) P3 Q3 rg d5 d6 d7 d8 e5 e6 e7 e8 H locs ls (by first | with_reducible assumption | omega) (by first | with_reducible assumption | omega) (arI_s har) (fun j hj h => h.elim (fun h9 => hR j hj h9) (fun h9 => by rw [h9]; exact hbad)) (Nat.lt_of_le_of_lt hct (cntP_lt (fun j h => Or.inl h) hbk (Or.inr rfl) hF9.1)) hP hD hS (lv_sub hl [0, 2, 3, 4, 5, 6] rfl)
                    · have c_42 : bareK ft st tn kd mn cx cy f0 (X b9).toInt (Y b9).toInt := zp_1 c_42
                      refine lv_aload_n hx hb dX4_cornerThatGoes_156 rfl (lv_at hl 3 rfl) ?_
                      refine lv_aload_n hx hb dX4_cornerThatGoes_157 rfl (lv_at hl 4 rfl) ?_
                      refine lv_aload_n hx hb dX4_cornerThatGoes_158 rfl (lv_at hl 5 rfl) ?_
                      refine lv_iload hx hb dX4_cornerThatGoes_159 (lv_at hl 0 rfl) ?_
                      refine zz_i (v := nI b9) (hz9) ?_
                      obtain ⟨hPc, hDc, hFc⟩ := zc_part (cx := [(oc3 lw (.ref dr) (.ref tg) (.ref wy) (.ref br) (.ref bo) (.ref aa)), (oc6 tg (.ref tx) (.ref ty) (nI nt1) rt1), (oa tx cI 3 TX1), (oa ty cI 3 TY1), (oc6 wy (.ref wx) (.ref wz) (nI nw1) rw1), (oa wx cI 2 WX1), (oa wz cI 2 WY1), (oc6 dr (.ref dx) (.ref dy) (nI (n - 1)) rg), (oa dx cI cd P3), (oa dy cI cd Q3), (oc0 br d5 d6 d7 d8), (oc0 bo e5 e6 e7 e8), (oc7 sh (.ref fa) (nI ft)), (oq fa cF 200 FA), (oc1 fe rk9 wd9 tw9 pa9 pb9 (.ref lo) (.ref lk) fm9), (oc4 lk kd9 st9 (.ref r) gb9 jt9 we9), (oc6 r (.ref rx) (.ref ry) (nI n) rg), (oa rx cI cap X), (oa ry cI cap Y)]) hP hD hS hA [0, 1, 2, 3, 4, 5, 6, 7, 8, 9, 10, 11, 13, 14, 15, 16, 17, 18, 19] rfl rfl
                      refine zcall (st1 := [.int (pI (pls (n - 1) P3 Q3 ∧ eFr (n - 1) P3 Q3 rg (prv (n - 1) (gpK (n - 1) b9)) 0 ∧ ∀ q, q < ft → (q ≠ f0 → lvF ft st tn q → (apB (min (min (X b9).toInt (X (prv n b9)).toInt) (X (nxt n b9)).toInt) (min (min (Y b9).toInt (Y (prv n b9)).toInt) (Y (nxt n b9)).toInt) (max (max (X b9).toInt (X (prv n b9)).toInt) (X (nxt n b9)).toInt) (max (max (Y b9).toInt (Y (prv n b9)).toInt) (Y (nxt n b9)).toInt) (nN (mn q)) (cF40 cx q) (cF40 cy q) ∨ (asb n X Y rg (n - 1) P3 Q3 rg (nN (mn q)) (cF40 cx q) (cF40 cy q) (rgK (kd q).toInt) ∧ (¬ ∃ j, j < nN (mn q) ∧ swC n X Y b9 (cF40 cx q j).toInt (cF40 cy q j).toInt))))))]) (va_runV (As := [.ref sh, .ref fe, .int (nI b9)]) (rest := []) ⟨hx, hb, hml, hown, hts⟩ (k_Law_allows_k l dC dI cI cZ cF H.size lw dr tg wy br bo aa tx ty nt1 TX1 TY1 rt1 wx wz nw1 WX1 WY1 rw1 dx dy (n - 1) cd P3 Q3 rg d5 d6 d7 d8 e5 e6 e7 e8 sh fa ft FA fe lo rk9 wd9 tw9 pa9 pb9 lk kd9 st9 gb9 jt9 we9 r rx ry n cap X Y rg f0 b9 fm9 L f kd st tn mn cx cy (by first | with_reducible assumption | omega) (by first | with_reducible assumption | omega) (hFA) (hs1) (by first | with_reducible assumption | assumption) (by first | with_reducible assumption | assumption) (by first | with_reducible assumption | assumption) (by first | with_reducible assumption | omega) (by first | with_reducible assumption | omega) (by first | with_reducible assumption | omega) (by first | with_reducible assumption | omega) (hp) (by first | with_reducible assumption | omega) (by first | with_reducible assumption | omega) (by first | with_reducible assumption | omega) (by first | with_reducible assumption | omega)) (csV_75 hts rfl rfl ⟨Nat.le_of_ble_eq_true rfl, Nat.le_of_ble_eq_true rfl⟩) (zPV2 (q0 := 0) (ci := 3) hPc hDc hK hXN rfl rfl) rfl rfl hl.1 rfl (lv_room (Nat.le_of_ble_eq_true rfl)) dX4_cornerThatGoes_161 ⟨Nat.le_of_ble_eq_true rfl, Nat.le_of_ble_eq_true rfl⟩) hS hFc hFc rfl (fun t H locs ht hB hk1 hS => ?_)
                      obtain ⟨q_44, q_45, q_46, q_47, q_48, q_49, q_50, q_51, q_52, q_53, q_54, q_55, q_56, q_57, q_58, q_59, hP1, hD1⟩ := hB
                      rw [ht] at hP1
                      obtain ⟨hP, hD⟩ := zkP (W2 := [(oc3 lw (.ref dr) (.ref tg) (.ref wy) (.ref br) (.ref bo) (.ref aa)), (oc6 tg (.ref tx) (.ref ty) (nI q_44) q_47), (oa tx cI 3 q_45), (oa ty cI 3 q_46), (oc6 wy (.ref wx) (.ref wz) (nI q_48) q_51), (oa wx cI 2 q_49), (oa wz cI 2 q_50), (oc6 dr (.ref dx) (.ref dy) (nI (n - 1)) rg), (oa dx cI cd P3), (oa dy cI cd Q3), (oc0 br q_52 q_53 q_54 q_55), (oc0 bo q_56 q_57 q_58 q_59), (oa aa cI 40 AR1), (oc7 sh (.ref fa) (nI ft)), (oq fa cF 200 FA), (oc1 fe rk9 wd9 tw9 pa9 pb9 (.ref lo) (.ref lk) fm9), (oc4 lk kd9 st9 (.ref r) gb9 jt9 we9), (oc6 r (.ref rx) (.ref ry) (nI n) rg), (oa rx cI cap X), (oa ry cI cap Y)]) hP hD [0, 1, 2, 3, 4, 5, 6, 7, 8, 9, 10, 11, 13, 14, 15, 16, 17, 18, 19] [12] [12] [0, 1, 2, 3, 4, 5, 6, 7, 8, 9, 10, 11, 13, 14, 15, 16, 17, 18, 19] [1, 2, 3, 4, 5, 6, 7, 8, 9, 10, 11, 12, 0, 13, 14, 15, 16, 17, 18, 19] 20 rfl rfl rfl rfl rfl rfl rfl rfl rfl hk1 hFc hP1 hD1
                      clear hk1 hPc hDc hFc hP1 hD1 ht
                      refine zz_i (v := pI (alC ft st tn kd mn cx cy f0 n X Y rg (n - 1) (ctF X b9) (ctF Y b9) rg b9)) (zp_iff (alC_cg (by omega) hcut)) ?_
                      refine lv_if_eq (tgt := 170) hx hb dX4_cornerThatGoes_164 rfl (fun c_60 => ?_) (fun c_60 => ?_)
                      · have c_60 : ¬ (alC ft st tn kd mn cx cy f0 n X Y rg (n - 1) (ctF X b9) (ctF Y b9) rg b9) := zp_0 c_60
                        have hbad : ¬ goK ft st tn kd mn cx cy f0 n X Y rg lim b9 := fun h9 => (by first | exact absurd h9.2.2.1 (by first | with_reducible assumption | assumption) | exact absurd h9.2.2.2 (by first | with_reducible assumption | assumption))
                        refine lv_aload_n hx hb dX4_cornerThatGoes_170 rfl (lv_at hl 3 rfl) ?_
                        refine va_get (D := (dC, dI)) (ci := 3) (v := .ref aa) (C := RX4) (T := TX4) (N := 6) hx hb hts inX4 hown hK hP 0 rfl rfl 5 (Nat.le_of_ble_eq_true rfl) (hts _ mw_225) (fun _ h9 => h9) rfl dX4_cornerThatGoes_171 ?_
                        refine lv_iload hx hb dX4_cornerThatGoes_174 (lv_at hl 0 rfl) ?_
                        refine zz_i (v := nI b9) (hz9) ?_
                        refine lv_iconst (v := (-1)) hx hb dX4_cornerThatGoes_176 rfl ?_
                        have b9_61 : b9 < 40 := by omega
                        refine z_iast hx hb hK hP hD hS 12 0 rfl rfl (e := b9) (x := (-1)) rfl b9_61 (Nat.le_of_ble_eq_true rfl) dX4_cornerThatGoes_177 (fun H locs hP hD hS => ?_)
                        obtain ⟨hP, hD⟩ : zPD (dC, dI) classes A ([(oc3 lw (.ref dr) (.ref tg) (.ref wy) (.ref br) (.ref bo) (.ref aa)), (oc6 tg (.ref tx) (.ref ty) (nI q_44) q_47), (oa tx cI 3 q_45), (oa ty cI 3 q_46), (oc6 wy (.ref wx) (.ref wz) (nI q_48) q_51), (oa wx cI 2 q_49), (oa wz cI 2 q_50), (oc6 dr (.ref dx) (.ref dy) (nI (n - 1)) rg), (oa dx cI cd P3), (oa dy cI cd Q3), (oc0 br q_52 q_53 q_54 q_55), (oc0 bo q_56 q_57 q_58 q_59), (oa aa cI 40 (upd AR1 b9 (-1))), (oc7 sh (.ref fa) (nI ft)), (oq fa cF 200 FA), (oc1 fe rk9 wd9 tw9 pa9 pb9 (.ref lo) (.ref lk) fm9), (oc4 lk kd9 st9 (.ref r) gb9 jt9 we9), (oc6 r (.ref rx) (.ref ry) (nI n) rg), (oa rx cI cap X), (oa ry cI cap Y)] ++ va_pl L f) H := ⟨hP, hD⟩
                        refine lv_iinc (v := nI (t5 + 1)) (lv' := [(5, .int (nI (t5 + 1))), (6, .int zb), (4, .ref r), (0, .ref lw), (1, .ref sh), (2, .ref fe), (3, .int lim)]) hx hb dX4_cornerThatGoes_178 hl (k := 1) rfl (nI_add t5 1) (Nat.le_of_ble_eq_true rfl) rfl (fun ls hl => ?_)
                        refine lv_goto (tgt := 83) hx hb dX4_cornerThatGoes_181 rfl ?_
                        exact ih_83 (t5 + 1) (fun j => R j ∨ j = b9) (upd AR1 b9 (-1)) q_44 q_45 q_46 q_47 q_48 q_49 q_50 q_51 (n - 1) P3 Q3 rg q_52 q_53 q_54 q_55 q_56 q_57 q_58 q_59 H locs ls (by first | with_reducible assumption | omega) (by first | with_reducible assumption | omega) (arI_s har) (fun j hj h => h.elim (fun h9 => hR j hj h9) (fun h9 => by rw [h9]; exact hbad)) (Nat.lt_of_le_of_lt hct (cntP_lt (fun j h => Or.inl h) hbk (Or.inr rfl) hF9.1)) hP hD hS (lv_sub hl [0, 2, 3, 4, 5, 6] rfl)
                      · have c_60 : alC ft st tn kd mn cx cy f0 n X Y rg (n - 1) (ctF X b9) (ctF Y b9) rg b9 := zp_1 c_60
                        refine lv_iload hx hb dX4_cornerThatGoes_167 (lv_at hl 0 rfl) ?_
                        have hy9 := go_yes hp har hR hbk hF9 hbm (by first | with_reducible assumption | assumption) (by first | with_reducible assumption | assumption)
                        rw [← hz9] at hy9
                        obtain ⟨hP9, hD9⟩ := zq_part (cx := [(oc3 lw (.ref dr) (.ref tg) (.ref wy) (.ref br) (.ref bo) (.ref aa)), (oc6 tg (.ref tx) (.ref ty) (nI q_44) q_47), (oa tx cI 3 q_45), (oa ty cI 3 q_46), (oc6 wy (.ref wx) (.ref wz) (nI q_48) q_51), (oa wx cI 2 q_49), (oa wz cI 2 q_50), (oc6 dr (.ref dx) (.ref dy) (nI (n - 1)) rg), (oa dx cI cd P3), (oa dy cI cd Q3), (oc0 br q_52 q_53 q_54 q_55), (oc0 bo q_56 q_57 q_58 q_59), (oa aa cI 40 AR1), (oc7 sh (.ref fa) (nI ft)), (oq fa cF 200 FA), (oc1 fe rk9 wd9 tw9 pa9 pb9 (.ref lo) (.ref lk) fm9), (oc4 lk kd9 st9 (.ref r) gb9 jt9 we9), (oc6 r (.ref rx) (.ref ry) (nI n) rg), (oa rx cI cap X), (oa ry cI cap Y)]) hP hD [0, 1, 2, 3, 4, 5, 6, 7, 8, 9, 10, 11, 12, 13, 14, 15, 16, 17, 18, 19] rfl rfl
                        rw [hQ9]
                        exact W.iret (v := zb) hx hb hr (fun t ht hW => ⟨⟨_, rfl, zb, q_44, q_45, q_46, q_47, q_48, q_49, q_50, q_51, (n - 1), P3, Q3, rg, q_52, q_53, q_54, q_55, q_56, q_57, q_58, q_59, AR1, rfl, (hy9), by rw [ht]; exact hP9, hD9⟩, hS.F ht⟩) hS.2.2 dX4_cornerThatGoes_169
                  · have c_39 : zb.toInt = (-1) := zc_eq rfl rfl c_39
                    refine lv_iconst (v := (-1)) hx hb dX4_cornerThatGoes_111 rfl ?_
                    have hy9 := go_no (lim := lim) hp hn2.2 har hR hat (by omega)
                    obtain ⟨hP9, hD9⟩ := zq_part (cx := [(oc3 lw (.ref dr) (.ref tg) (.ref wy) (.ref br) (.ref bo) (.ref aa)), (oc6 tg (.ref tx) (.ref ty) (nI nt1) rt1), (oa tx cI 3 TX1), (oa ty cI 3 TY1), (oc6 wy (.ref wx) (.ref wz) (nI nw1) rw1), (oa wx cI 2 WX1), (oa wz cI 2 WY1), (oc6 dr (.ref dx) (.ref dy) (nI nd1) rd1), (oa dx cI cd P1), (oa dy cI cd Q1), (oc0 br d5 d6 d7 d8), (oc0 bo e5 e6 e7 e8), (oa aa cI 40 AR1), (oc7 sh (.ref fa) (nI ft)), (oq fa cF 200 FA), (oc1 fe rk9 wd9 tw9 pa9 pb9 (.ref lo) (.ref lk) fm9), (oc4 lk kd9 st9 (.ref r) gb9 jt9 we9), (oc6 r (.ref rx) (.ref ry) (nI n) rg), (oa rx cI cap X), (oa ry cI cap Y)]) hP hD [0, 1, 2, 3, 4, 5, 6, 7, 8, 9, 10, 11, 12, 13, 14, 15, 16, 17, 18, 19] rfl rfl
                    rw [hQ9]
                    exact W.iret (v := (-1)) hx hb hr (fun t ht hW => ⟨⟨_, rfl, (-1), nt1, TX1, TY1, rt1, nw1, WX1, WY1, rw1, nd1, P1, Q1, rd1, d5, d6, d7, d8, e5, e6, e7, e8, AR1, rfl, (hy9), by rw [ht]; exact hP9, hD9⟩, hS.F ht⟩) hS.2.2 dX4_cornerThatGoes_112
            exact hl_83 _ 0 (fun _ => False) AR1 nt TX TY rt nw WX WY rw nd P Q rd b1 b2 b3 b4 b5 b6 b7 b8 H locs ls (Nat.lt_succ_self _) (by first | with_reducible assumption | omega) (fun j hj => har j (by first | with_reducible assumption | omega)) (fun j hj h => h.elim) (Nat.zero_le _) hP hD hS (lv_sub hl [0, 1, 2, 3, 4, 5] rfl)
          · have c_35 : ((k : Nat) : Int) < ((n : Nat) : Int) := zc_nle (nI_toInt b9_34) (nI_toInt b9_36) c_35
            refine lv_aload_n hx hb dX4_cornerThatGoes_46 rfl (lv_at hl 2 rfl) ?_
            refine va_get (D := (dC, dI)) (ci := 3) (v := .ref aa) (C := RX4) (T := TX4) (N := 6) hx hb hts inX4 hown hK hP 0 rfl rfl 5 (Nat.le_of_ble_eq_true rfl) (hts _ mw_225) (fun _ h9 => h9) rfl dX4_cornerThatGoes_47 ?_
            refine lv_iload hx hb dX4_cornerThatGoes_50 (lv_at hl 0 rfl) ?_
            refine lv_aload hx hb dX4_cornerThatGoes_52 (lv_at hl 1 rfl) ?_
            refine lv_iload hx hb dX4_cornerThatGoes_54 (lv_at hl 0 rfl) ?_
            obtain ⟨hPc, hDc, hFc⟩ := zc_sub (wc := [(oc6 r (.ref rx) (.ref ry) (nI n) rg), (oa rx cI cap X), (oa ry cI cap Y)]) hP hD hS hA [17, 18, 19] rfl rfl
            refine zcall (st1 := [.int (pI (rg.toInt = 0 ∧ (k = 0 ∨ k = n - 1))), .int (nI k), .ref aa]) (va_runV (As := [.int (nI k)]) (rest := [.int (nI k), .ref aa]) ⟨hx, hb, hml, hown, hts⟩ (k_Row_isEnd l dC dI cI cZ cF H.size r rx ry n cap X Y rg k (by first | with_reducible assumption | omega) (by first | with_reducible assumption | omega) (by first | with_reducible assumption | omega)) (csV_76 hts rfl rfl ⟨Nat.le_of_ble_eq_true rfl, Nat.le_of_ble_eq_true rfl⟩) (zPV2 (q0 := 0) (ci := 6) hPc hDc hK hXN rfl rfl) rfl rfl hl.1 rfl (lv_room (Nat.le_of_ble_eq_true rfl)) dX4_cornerThatGoes_56 ⟨Nat.le_of_ble_eq_true rfl, Nat.le_of_ble_eq_true rfl⟩) hS hFc hFc rfl (fun t H locs ht hB hk1 hS => ?_)
            obtain ⟨hP1, hD1⟩ := hB
            rw [ht] at hP1
            obtain ⟨hP, hD⟩ := zkQ (W2 := [(oc3 lw (.ref dr) (.ref tg) (.ref wy) (.ref br) (.ref bo) (.ref aa)), (oc6 tg (.ref tx) (.ref ty) (nI nt) rt), (oa tx cI 3 TX), (oa ty cI 3 TY), (oc6 wy (.ref wx) (.ref wz) (nI nw) rw), (oa wx cI 2 WX), (oa wz cI 2 WY), (oc6 dr (.ref dx) (.ref dy) (nI nd) rd), (oa dx cI cd P), (oa dy cI cd Q), (oc0 br b1 b2 b3 b4), (oc0 bo b5 b6 b7 b8), (oa aa cI 40 AR1), (oc7 sh (.ref fa) (nI ft)), (oq fa cF 200 FA), (oc1 fe rk9 wd9 tw9 pa9 pb9 (.ref lo) (.ref lk) fm9), (oc4 lk kd9 st9 (.ref r) gb9 jt9 we9), (oc6 r (.ref rx) (.ref ry) (nI n) rg), (oa rx cI cap X), (oa ry cI cap Y)]) hP hD [17, 18, 19] [0, 1, 2, 3, 4, 5, 6, 7, 8, 9, 10, 11, 12, 13, 14, 15, 16] [0, 1, 2, 3, 4, 5, 6, 7, 8, 9, 10, 11, 12, 13, 14, 15, 16] [17, 18, 19] [0, 1, 2, 3, 4, 5, 6, 7, 8, 9, 10, 11, 12, 13, 14, 15, 16, 17, 18, 19] 20 rfl rfl rfl rfl rfl rfl rfl rfl rfl hk1 hFc hP1 hD1
            clear hk1 hPc hDc hFc hP1 hD1 ht
            refine zz_i (v := pI (arE n rg k)) (rfl) ?_
            refine lv_if_eq (tgt := 66) hx hb dX4_cornerThatGoes_59 rfl (fun c_62 => ?_) (fun c_62 => ?_)
            · have c_62 : ¬ (arE n rg k) := zp_0 c_62
              refine lv_aload hx hb dX4_cornerThatGoes_66 (lv_at hl 1 rfl) ?_
              refine lv_iload hx hb dX4_cornerThatGoes_68 (lv_at hl 0 rfl) ?_
              obtain ⟨hPc, hDc, hFc⟩ := zc_sub (wc := [(oc6 r (.ref rx) (.ref ry) (nI n) rg), (oa rx cI cap X), (oa ry cI cap Y)]) hP hD hS hA [17, 18, 19] rfl rfl
              refine zcall (st1 := [.int (nI (Int.natAbs (eCr n X Y (prv n k) (X (nxt n k)).toInt (Y (nxt n k)).toInt))), .int (nI k), .ref aa]) (va_runV (As := [.int (nI k)]) (rest := [.int (nI k), .ref aa]) ⟨hx, hb, hml, hown, hts⟩ (k_Row_doubleTriangle l dC dI cI cZ cF H.size r rx ry n cap X Y rg k (by first | with_reducible assumption | omega) (by first | with_reducible assumption | omega) (by first | with_reducible assumption | assumption) (by first | with_reducible assumption | omega)) (csV_77 hts rfl rfl ⟨Nat.le_of_ble_eq_true rfl, Nat.le_of_ble_eq_true rfl⟩) (zPV2 (q0 := 0) (ci := 6) hPc hDc hK hXN rfl rfl) rfl rfl hl.1 rfl (lv_room (Nat.le_of_ble_eq_true rfl)) dX4_cornerThatGoes_70 ⟨Nat.le_of_ble_eq_true rfl, Nat.le_of_ble_eq_true rfl⟩) hS hFc hFc rfl (fun t H locs ht hB hk1 hS => ?_)
              obtain ⟨hP1, hD1⟩ := hB
              rw [ht] at hP1
              obtain ⟨hP, hD⟩ := zkQ (W2 := [(oc3 lw (.ref dr) (.ref tg) (.ref wy) (.ref br) (.ref bo) (.ref aa)), (oc6 tg (.ref tx) (.ref ty) (nI nt) rt), (oa tx cI 3 TX), (oa ty cI 3 TY), (oc6 wy (.ref wx) (.ref wz) (nI nw) rw), (oa wx cI 2 WX), (oa wz cI 2 WY), (oc6 dr (.ref dx) (.ref dy) (nI nd) rd), (oa dx cI cd P), (oa dy cI cd Q), (oc0 br b1 b2 b3 b4), (oc0 bo b5 b6 b7 b8), (oa aa cI 40 AR1), (oc7 sh (.ref fa) (nI ft)), (oq fa cF 200 FA), (oc1 fe rk9 wd9 tw9 pa9 pb9 (.ref lo) (.ref lk) fm9), (oc4 lk kd9 st9 (.ref r) gb9 jt9 we9), (oc6 r (.ref rx) (.ref ry) (nI n) rg), (oa rx cI cap X), (oa ry cI cap Y)]) hP hD [17, 18, 19] [0, 1, 2, 3, 4, 5, 6, 7, 8, 9, 10, 11, 12, 13, 14, 15, 16] [0, 1, 2, 3, 4, 5, 6, 7, 8, 9, 10, 11, 12, 13, 14, 15, 16] [17, 18, 19] [0, 1, 2, 3, 4, 5, 6, 7, 8, 9, 10, 11, 12, 13, 14, 15, 16, 17, 18, 19] 20 rfl rfl rfl rfl rfl rfl rfl rfl rfl hk1 hFc hP1 hD1
              clear hk1 hPc hDc hFc hP1 hD1 ht
              have b9_63 : k < 40 := by omega
              refine z_iast hx hb hK hP hD hS 12 0 rfl rfl (e := k) (x := nI (Int.natAbs (eCr n X Y (prv n k) (X (nxt n k)).toInt (Y (nxt n k)).toInt))) rfl b9_63 (Nat.le_of_ble_eq_true rfl) dX4_cornerThatGoes_73 (fun H locs hP hD hS => ?_)
              obtain ⟨hP, hD⟩ : zPD (dC, dI) classes A ([(oc3 lw (.ref dr) (.ref tg) (.ref wy) (.ref br) (.ref bo) (.ref aa)), (oc6 tg (.ref tx) (.ref ty) (nI nt) rt), (oa tx cI 3 TX), (oa ty cI 3 TY), (oc6 wy (.ref wx) (.ref wz) (nI nw) rw), (oa wx cI 2 WX), (oa wz cI 2 WY), (oc6 dr (.ref dx) (.ref dy) (nI nd) rd), (oa dx cI cd P), (oa dy cI cd Q), (oc0 br b1 b2 b3 b4), (oc0 bo b5 b6 b7 b8), (oa aa cI 40 (upd AR1 k (nI (Int.natAbs (eCr n X Y (prv n k) (X (nxt n k)).toInt (Y (nxt n k)).toInt))))), (oc7 sh (.ref fa) (nI ft)), (oq fa cF 200 FA), (oc1 fe rk9 wd9 tw9 pa9 pb9 (.ref lo) (.ref lk) fm9), (oc4 lk kd9 st9 (.ref r) gb9 jt9 we9), (oc6 r (.ref rx) (.ref ry) (nI n) rg), (oa rx cI cap X), (oa ry cI cap Y)] ++ va_pl L f) H := ⟨hP, hD⟩
              refine lv_iinc (v := nI (k + 1)) (lv' := [(5, .int (nI (k + 1))), (4, .ref r), (0, .ref lw), (1, .ref sh), (2, .ref fe), (3, .int lim)]) hx hb dX4_cornerThatGoes_74 hl (k := 0) rfl (nI_add k 1) (Nat.le_of_ble_eq_true rfl) rfl (fun ls hl => ?_)
              refine lv_goto (tgt := 36) hx hb dX4_cornerThatGoes_77 rfl ?_
              exact ih_36 (k + 1) (upd AR1 k (nI (Int.natAbs (eCr n X Y (prv n k) (X (nxt n k)).toInt (Y (nxt n k)).toInt)))) H locs ls (by first | with_reducible assumption | omega) (by first | with_reducible assumption | omega) (by intro j hj; rcases Nat.lt_or_ge j k with h | h; (rw [show upd AR1 k _ j = AR1 j from if_neg (by first | with_reducible assumption | omega)]; exact har j h); (rw [show j = k by omega, up_at]; first | exact ⟨fun _ => rfl, fun h9 => absurd (Or.inr (by first | with_reducible assumption | assumption)) h9⟩ | exact ⟨fun h9 => absurd (h9.resolve_left id) (by first | with_reducible assumption | assumption), fun _ => rfl⟩)) hP hD hS (lv_sub hl [0, 1, 2, 3, 4, 5] rfl)
            · have c_62 : arE n rg k := zp_1 c_62
              refine lv_iconst (v := (-1)) hx hb dX4_cornerThatGoes_62 rfl ?_
              refine lv_goto (tgt := 73) hx hb dX4_cornerThatGoes_63 rfl ?_
              have b9_64 : k < 40 := by omega
              refine z_iast hx hb hK hP hD hS 12 0 rfl rfl (e := k) (x := (-1)) rfl b9_64 (Nat.le_of_ble_eq_true rfl) dX4_cornerThatGoes_73 (fun H locs hP hD hS => ?_)
              obtain ⟨hP, hD⟩ : zPD (dC, dI) classes A ([(oc3 lw (.ref dr) (.ref tg) (.ref wy) (.ref br) (.ref bo) (.ref aa)), (oc6 tg (.ref tx) (.ref ty) (nI nt) rt), (oa tx cI 3 TX), (oa ty cI 3 TY), (oc6 wy (.ref wx) (.ref wz) (nI nw) rw), (oa wx cI 2 WX), (oa wz cI 2 WY), (oc6 dr (.ref dx) (.ref dy) (nI nd) rd), (oa dx cI cd P), (oa dy cI cd Q), (oc0 br b1 b2 b3 b4), (oc0 bo b5 b6 b7 b8), (oa aa cI 40 (upd AR1 k (-1))), (oc7 sh (.ref fa) (nI ft)), (oq fa cF 200 FA), (oc1 fe rk9 wd9 tw9 pa9 pb9 (.ref lo) (.ref lk) fm9), (oc4 lk kd9 st9 (.ref r) gb9 jt9 we9), (oc6 r (.ref rx) (.ref ry) (nI n) rg), (oa rx cI cap X), (oa ry cI cap Y)] ++ va_pl L f) H := ⟨hP, hD⟩
              refine lv_iinc (v := nI (k + 1)) (lv' := [(5, .int (nI (k + 1))), (4, .ref r), (0, .ref lw), (1, .ref sh), (2, .ref fe), (3, .int lim)]) hx hb dX4_cornerThatGoes_74 hl (k := 0) rfl (nI_add k 1) (Nat.le_of_ble_eq_true rfl) rfl (fun ls hl => ?_)
              refine lv_goto (tgt := 36) hx hb dX4_cornerThatGoes_77 rfl ?_
              exact ih_36 (k + 1) (upd AR1 k (-1)) H locs ls (by first | with_reducible assumption | omega) (by first | with_reducible assumption | omega) (by intro j hj; rcases Nat.lt_or_ge j k with h | h; (rw [show upd AR1 k _ j = AR1 j from if_neg (by first | with_reducible assumption | omega)]; exact har j h); (rw [show j = k by omega, up_at]; first | exact ⟨fun _ => rfl, fun h9 => absurd (Or.inr (by first | with_reducible assumption | assumption)) h9⟩ | exact ⟨fun h9 => absurd (h9.resolve_left id) (by first | with_reducible assumption | assumption), fun _ => rfl⟩)) hP hD hS (lv_sub hl [0, 1, 2, 3, 4, 5] rfl)
      exact hl_36 _ 0 AR s.heap [] ls (Nat.lt_succ_self _) (by first | with_reducible assumption | omega) (by intro j hj; omega) hP hD hS (lv_sub hl [0, 1, 2, 3, 4, 5] rfl)
    · have c_33 : ((n : Nat) : Int) ≤ 3 := zc_nlt rfl (nI_toInt b9_34) c_33
      exfalso; omega
end
section
/-! a place in a triangle: the class's way and the reference's -/
theorem cr_rel (a1 a2 b1 b2 x y : Int) : cr a1 a2 b1 b2 x y = (a1 - x) * (b2 - y) - (b1 - x) * (a2 - y) := by
  unfold cr
  simp only [Int.sub_mul, Int.mul_sub, Int.mul_comm]
  omega
theorem bary (p q r s t z : Int) : (r * z - t * s) * q + (t * q - p * z) * s + (p * s - r * q) * z = 0 := by
  simp only [Int.sub_mul, Int.mul_sub, Int.mul_assoc, Int.mul_comm, Int.mul_left_comm]
  omega
theorem barx (p q r s t z : Int) : (r * z - t * s) * p + (t * q - p * z) * r + (p * s - r * q) * t = 0 := by
  simp only [Int.sub_mul, Int.mul_sub, Int.mul_assoc, Int.mul_comm, Int.mul_left_comm]
  omega
theorem pp {a b : Int} (ha : 0 < a) (hb : 0 < b) : 0 < a * b := Int.mul_pos ha hb
theorem pn {a b : Int} (ha : 0 < a) (hb : b < 0) : a * b < 0 := Int.mul_neg_of_pos_of_neg ha hb
theorem np {a b : Int} (ha : a < 0) (hb : 0 < b) : a * b < 0 := Int.mul_neg_of_neg_of_pos ha hb
theorem pz {a b : Int} (ha : 0 ≤ a) (hb : 0 ≤ b) : 0 ≤ a * b := Int.mul_nonneg ha hb
theorem pm {a b : Int} (ha : 0 ≤ a) (hb : b ≤ 0) : a * b ≤ 0 := Int.mul_nonpos_of_nonneg_of_nonpos ha hb
theorem mp {a b : Int} (ha : a ≤ 0) (hb : 0 ≤ b) : a * b ≤ 0 := Int.mul_nonpos_of_nonpos_of_nonneg ha hb
theorem mm9 {a b : Int} (ha : a ≤ 0) (hb : b ≤ 0) : 0 ≤ a * b := Int.mul_nonneg_of_nonpos_of_nonpos ha hb
/-- weights of one sign that balance: not both on one side -/
theorem bal2 {v w p q : Int} (hs : (0 ≤ v ∧ 0 ≤ w ∧ 0 < v + w) ∨ (v ≤ 0 ∧ w ≤ 0 ∧ v + w < 0)) (h : v * p + w * q = 0) : ¬ (0 < p ∧ 0 < q) ∧ ¬ (p < 0 ∧ q < 0) := by
  rcases hs with ⟨h1, h2, h3⟩ | ⟨h1, h2, h3⟩
  · refine ⟨fun g => ?_, fun g => ?_⟩
    · have a := pz h1 (Int.le_of_lt g.1); have b := pz h2 (Int.le_of_lt g.2)
      rcases Int.lt_or_eq_of_le h1 with c | c
      · have := pp c g.1; omega
      · have := pp (show 0 < w by omega) g.2; omega
    · have a := pm h1 (Int.le_of_lt g.1); have b := pm h2 (Int.le_of_lt g.2)
      rcases Int.lt_or_eq_of_le h1 with c | c
      · have := pn c g.1; omega
      · have := pn (show 0 < w by omega) g.2; omega
  · refine ⟨fun g => ?_, fun g => ?_⟩
    · have a := mp h1 (Int.le_of_lt g.1); have b := mp h2 (Int.le_of_lt g.2)
      rcases Int.lt_or_eq_of_le h1 with c | c
      · have := np c g.1; omega
      · have := np (show w < 0 by omega) g.2; omega
    · have a := mm9 h1 (Int.le_of_lt g.1); have b := mm9 h2 (Int.le_of_lt g.2)
      rcases Int.lt_or_eq_of_le h1 with c | c
      · have := Int.mul_pos_of_neg_of_neg c g.1; omega
      · have := Int.mul_pos_of_neg_of_neg (show w < 0 by omega) g.2; omega
/-- on a triangle's edge where one weight is 0 and the others of one sign -/
theorem on_bal {a1 a2 b1 b2 c1 c2 x y : Int} (h0 : cr a1 a2 b1 b2 x y = 0) (hs : (0 ≤ cr b1 b2 c1 c2 x y ∧ 0 ≤ cr c1 c2 a1 a2 x y ∧ 0 < cr b1 b2 c1 c2 x y + cr c1 c2 a1 a2 x y) ∨ (cr b1 b2 c1 c2 x y ≤ 0 ∧ cr c1 c2 a1 a2 x y ≤ 0 ∧ cr b1 b2 c1 c2 x y + cr c1 c2 a1 a2 x y < 0)) : onS a1 a2 b1 b2 x y := by
  have i1 := bary (a1 - x) (a2 - y) (b1 - x) (b2 - y) (c1 - x) (c2 - y)
  have i2 := barx (a1 - x) (a2 - y) (b1 - x) (b2 - y) (c1 - x) (c2 - y)
  rw [← cr_rel, ← cr_rel, ← cr_rel] at i1 i2
  rw [h0, Int.zero_mul, Int.add_zero] at i1 i2
  have g1 := bal2 hs i1; have g2 := bal2 hs i2
  unfold onS
  refine ⟨h0, ?_, ?_, ?_, ?_⟩ <;> omega
def tg2 (a1 a2 b1 b2 x y : Int) : Prop := (y < a2 ↔ ¬ y < b2) ∧ ((a2 < b2 ∧ 0 < cr a1 a2 b1 b2 x y) ∨ (¬ a2 < b2 ∧ cr a1 a2 b1 b2 x y < 0))
/-- inside, off the edges: all on one side -/
def st3 (u v w : Int) : Prop := (0 < u ∧ 0 < v ∧ 0 < w) ∨ (u < 0 ∧ v < 0 ∧ w < 0)
theorem tg_a {a2 b2 u y : Int} (h1 : y < a2 ↔ ¬ y < b2) : ((y < a2 ↔ ¬ y < b2) ∧ ((a2 < b2 ∧ 0 < u) ∨ (¬ a2 < b2 ∧ u < 0))) ↔ ((y < a2 ∧ u < 0) ∨ (¬ y < a2 ∧ 0 < u)) := by
  by_cases s : y < a2
  · have hb : ¬ y < b2 := h1.mp s
    exact ⟨fun h => Or.inl ⟨s, by omega⟩, fun h => ⟨h1, Or.inr ⟨by omega, by omega⟩⟩⟩
  · have hb : y < b2 := Classical.byContradiction fun q => s (h1.mpr q)
    exact ⟨fun h => Or.inr ⟨s, by omega⟩, fun h => ⟨h1, Or.inl ⟨by omega, by omega⟩⟩⟩
theorem tg_c {a2 c2 w y : Int} (h1 : y < c2 ↔ ¬ y < a2) : ((y < c2 ↔ ¬ y < a2) ∧ ((c2 < a2 ∧ 0 < w) ∨ (¬ c2 < a2 ∧ w < 0))) ↔ ((y < a2 ∧ 0 < w) ∨ (¬ y < a2 ∧ w < 0)) := by
  by_cases s : y < a2
  · have hb : ¬ y < c2 := fun q => h1.mp q s
    exact ⟨fun h => Or.inl ⟨s, by omega⟩, fun h => ⟨h1, Or.inl ⟨by omega, by omega⟩⟩⟩
  · have hb : y < c2 := h1.mpr s
    exact ⟨fun h => Or.inr ⟨s, by omega⟩, fun h => ⟨h1, Or.inr ⟨by omega, by omega⟩⟩⟩
theorem tri_k {a2 b2 c2 y u v w : Int} (h1 : y < a2 ↔ ¬ y < b2) (h2 : y < b2 ↔ y < c2) (i1 : v * (a2 - y) + w * (b2 - y) + u * (c2 - y) = 0) (nz : v = 0 → ¬ ((0 < u ∧ 0 < w) ∨ (u < 0 ∧ w < 0))) : (0 < u ∧ 0 < w → 0 < v) ∧ (u < 0 ∧ w < 0 → v < 0) := by
  refine ⟨fun g => ?_, fun g => ?_⟩
  · have vz : v ≠ 0 := fun h => nz h (Or.inl g)
    by_cases s : y < a2
    · have e1 := pm (Int.le_of_lt g.2) (show b2 - y ≤ 0 by omega); have e2 := pm (Int.le_of_lt g.1) (show c2 - y ≤ 0 by omega)
      rcases Int.lt_or_gt_of_ne vz with q | q
      · have := np q (show 0 < a2 - y by omega); omega
      · exact q
    · have e1 := pp g.2 (show 0 < b2 - y by omega); have e2 := pp g.1 (show 0 < c2 - y by omega)
      rcases Int.lt_or_gt_of_ne vz with q | q
      · have := mm9 (Int.le_of_lt q) (show a2 - y ≤ 0 by omega); omega
      · exact q
  · have vz : v ≠ 0 := fun h => nz h (Or.inr g)
    by_cases s : y < a2
    · have e1 := mm9 (Int.le_of_lt g.2) (show b2 - y ≤ 0 by omega); have e2 := mm9 (Int.le_of_lt g.1) (show c2 - y ≤ 0 by omega)
      rcases Int.lt_or_gt_of_ne vz with q | q
      · exact q
      · have := pp q (show 0 < a2 - y by omega); omega
    · have e1 := np g.2 (show 0 < b2 - y by omega); have e2 := np g.1 (show 0 < c2 - y by omega)
      rcases Int.lt_or_gt_of_ne vz with q | q
      · exact q
      · have := pm (Int.le_of_lt q) (show a2 - y ≤ 0 by omega); omega
theorem tri_s {s : Prop} {u v w : Int} (u0 : u ≠ 0) (w0 : w ≠ 0) (k1 : 0 < u ∧ 0 < w → 0 < v) (k2 : u < 0 ∧ w < 0 → v < 0) : (((s ∧ u < 0) ∨ (¬ s ∧ 0 < u)) ↔ ¬ ((s ∧ 0 < w) ∨ (¬ s ∧ w < 0))) ↔ st3 u v w := by
  unfold st3
  rcases Int.lt_or_gt_of_ne u0 with p1 | p1 <;> rcases Int.lt_or_gt_of_ne w0 with p2 | p2
  · have v0 := k2 ⟨p1, p2⟩
    have a1 : ¬ 0 < u := by omega
    have a2 : ¬ 0 < w := by omega
    simp [p1, p2, v0, a1, a2]
  · have a1 : ¬ 0 < u := by omega
    have a2 : ¬ w < 0 := by omega
    simp [p1, p2, a1, a2]
  · have a1 : ¬ u < 0 := by omega
    have a2 : ¬ 0 < w := by omega
    simp [p1, p2, a1, a2]
  · have v0 := k1 ⟨p1, p2⟩
    have a1 : ¬ u < 0 := by omega
    have a2 : ¬ w < 0 := by omega
    simp [p1, p2, v0, a1, a2]
/-- corner a lies on another side of the place's height than b and c -/
theorem tri_a {a1 a2 b1 b2 c1 c2 x y : Int} (h1 : y < a2 ↔ ¬ y < b2) (h2 : y < b2 ↔ y < c2) (n1 : ¬ onS a1 a2 b1 b2 x y) (n2 : ¬ onS b1 b2 c1 c2 x y) (n3 : ¬ onS c1 c2 a1 a2 x y) :
    ¬ tg2 b1 b2 c1 c2 x y ∧ ((tg2 a1 a2 b1 b2 x y ↔ ¬ tg2 c1 c2 a1 a2 x y) ↔ st3 (cr a1 a2 b1 b2 x y) (cr b1 b2 c1 c2 x y) (cr c1 c2 a1 a2 x y)) := by
  have i1 := bary (a1 - x) (a2 - y) (b1 - x) (b2 - y) (c1 - x) (c2 - y)
  rw [← cr_rel, ← cr_rel, ← cr_rel] at i1
  have h3 : y < c2 ↔ ¬ y < a2 := by omega
  have u0 : cr a1 a2 b1 b2 x y ≠ 0 := fun h => n1 (on_of_mid h1 h)
  have w0 : cr c1 c2 a1 a2 x y ≠ 0 := fun h => n3 (on_of_mid h3 h)
  have nz : cr b1 b2 c1 c2 x y = 0 → ¬ ((0 < cr a1 a2 b1 b2 x y ∧ 0 < cr c1 c2 a1 a2 x y) ∨ (cr a1 a2 b1 b2 x y < 0 ∧ cr c1 c2 a1 a2 x y < 0)) := fun h g => n2 (on_bal (c1 := a1) (c2 := a2) h (by omega))
  have key := tri_k h1 h2 i1 nz
  refine ⟨fun h => by have := h.1; omega, ?_⟩
  unfold tg2
  rw [tg_a h1, tg_c h3]
  exact tri_s u0 w0 key.1 key.2
theorem tri_n {a1 a2 b1 b2 c1 c2 x y : Int} (h1 : y < a2 ↔ y < b2) (h2 : y < b2 ↔ y < c2) : ¬ st3 (cr a1 a2 b1 b2 x y) (cr b1 b2 c1 c2 x y) (cr c1 c2 a1 a2 x y) := by
  have i1 := bary (a1 - x) (a2 - y) (b1 - x) (b2 - y) (c1 - x) (c2 - y)
  rw [← cr_rel, ← cr_rel, ← cr_rel] at i1
  have e0 : a2 = y → b2 = y → cr a1 a2 b1 b2 x y = 0 := fun g1 g2 => by rw [cr_rel, g1, g2]; simp
  generalize cr a1 a2 b1 b2 x y = u at *
  generalize cr b1 b2 c1 c2 x y = v at *
  generalize cr c1 c2 a1 a2 x y = w at *
  intro g
  rcases g with ⟨g1, g2, g3⟩ | ⟨g1, g2, g3⟩
  · by_cases s : y < a2
    · have a := pp g2 (show 0 < a2 - y by omega); have b := pp g3 (show 0 < b2 - y by omega); have c := pp g1 (show 0 < c2 - y by omega); omega
    · have a := pm (Int.le_of_lt g2) (show a2 - y ≤ 0 by omega); have b := pm (Int.le_of_lt g3) (show b2 - y ≤ 0 by omega); have c := pm (Int.le_of_lt g1) (show c2 - y ≤ 0 by omega)
      rcases Int.lt_or_eq_of_le (show a2 - y ≤ 0 by omega) with q | q
      · have := pn g2 q; omega
      · rcases Int.lt_or_eq_of_le (show b2 - y ≤ 0 by omega) with r | r
        · have := pn g3 r; omega
        · have := e0 (by omega) (by omega); omega
  · by_cases s : y < a2
    · have a := np g2 (show 0 < a2 - y by omega); have b := np g3 (show 0 < b2 - y by omega); have c := np g1 (show 0 < c2 - y by omega); omega
    · have a := mm9 (Int.le_of_lt g2) (show a2 - y ≤ 0 by omega); have b := mm9 (Int.le_of_lt g3) (show b2 - y ≤ 0 by omega); have c := mm9 (Int.le_of_lt g1) (show c2 - y ≤ 0 by omega)
      rcases Int.lt_or_eq_of_le (show a2 - y ≤ 0 by omega) with q | q
      · have := Int.mul_pos_of_neg_of_neg g2 q; omega
      · rcases Int.lt_or_eq_of_le (show b2 - y ≤ 0 by omega) with r | r
        · have := Int.mul_pos_of_neg_of_neg g3 r; omega
        · have := e0 (by omega) (by omega); omega
/-- off the edges: an odd number of edges is crossed just inside -/
theorem tri_p {a1 a2 b1 b2 c1 c2 x y : Int} (n1 : ¬ onS a1 a2 b1 b2 x y) (n2 : ¬ onS b1 b2 c1 c2 x y) (n3 : ¬ onS c1 c2 a1 a2 x y) :
    ((tg2 a1 a2 b1 b2 x y ↔ ¬ tg2 b1 b2 c1 c2 x y) ↔ ¬ tg2 c1 c2 a1 a2 x y) ↔ st3 (cr a1 a2 b1 b2 x y) (cr b1 b2 c1 c2 x y) (cr c1 c2 a1 a2 x y) := by
  by_cases s1 : y < a2 ↔ y < b2
  · by_cases s2 : y < b2 ↔ y < c2
    · have := tri_n (a1 := a1) (b1 := b1) (c1 := c1) (x := x) s1 s2
      have t1 : ¬ tg2 a1 a2 b1 b2 x y := fun h => by unfold tg2 at h; omega
      have t2 : ¬ tg2 b1 b2 c1 c2 x y := fun h => by unfold tg2 at h; omega
      have t3 : ¬ tg2 c1 c2 a1 a2 x y := fun h => by unfold tg2 at h; omega
      simp only [t1, t2, t3, this]; decide
    · have h := tri_a (a1 := c1) (a2 := c2) (b1 := a1) (b2 := a2) (c1 := b1) (c2 := b2) (x := x) (y := y) (by omega) s1 n3 n1 n2
      have e : st3 (cr c1 c2 a1 a2 x y) (cr a1 a2 b1 b2 x y) (cr b1 b2 c1 c2 x y) ↔ st3 (cr a1 a2 b1 b2 x y) (cr b1 b2 c1 c2 x y) (cr c1 c2 a1 a2 x y) := by unfold st3; omega
      rw [← e, ← h.2]
      have t1 := h.1
      by_cases p : tg2 b1 b2 c1 c2 x y <;> by_cases q : tg2 c1 c2 a1 a2 x y <;> simp [t1, p, q]
  · by_cases s2 : y < b2 ↔ y < c2
    · have h := tri_a (a1 := a1) (a2 := a2) (b1 := b1) (b2 := b2) (c1 := c1) (c2 := c2) (x := x) (y := y) (by omega) s2 n1 n2 n3
      rw [← h.2]
      have t1 := h.1
      by_cases p : tg2 a1 a2 b1 b2 x y <;> by_cases q : tg2 c1 c2 a1 a2 x y <;> simp [t1, p, q]
    · have h := tri_a (a1 := b1) (a2 := b2) (b1 := c1) (b2 := c2) (c1 := a1) (c2 := a2) (x := x) (y := y) (by omega) (by omega) n2 n3 n1
      have e : st3 (cr b1 b2 c1 c2 x y) (cr c1 c2 a1 a2 x y) (cr a1 a2 b1 b2 x y) ↔ st3 (cr a1 a2 b1 b2 x y) (cr b1 b2 c1 c2 x y) (cr c1 c2 a1 a2 x y) := by unfold st3; omega
      rw [← e, ← h.2]
      have t1 := h.1
      by_cases p : tg2 a1 a2 b1 b2 x y <;> by_cases q : tg2 b1 b2 c1 c2 x y <;> simp [t1, p, q]
theorem cr_sum (a1 a2 b1 b2 c1 c2 x y : Int) : cr a1 a2 b1 b2 x y + cr b1 b2 c1 c2 x y + cr c1 c2 a1 a2 x y = cr a1 a2 b1 b2 c1 c2 := by
  unfold cr
  simp only [Int.sub_mul, Int.mul_sub, Int.mul_comm]
  omega
/-- the reference's triangle: on an edge, or all on one side -/
theorem wtM_iff {a1 a2 b1 b2 c1 c2 x y : Int} : wtM a1 a2 b1 b2 c1 c2 x y ↔ (onS a1 a2 b1 b2 x y ∨ onS b1 b2 c1 c2 x y ∨ onS c1 c2 a1 a2 x y) ∨ st3 (cr a1 a2 b1 b2 x y) (cr b1 b2 c1 c2 x y) (cr c1 c2 a1 a2 x y) := by
  have hs := cr_sum a1 a2 b1 b2 c1 c2 x y
  unfold wtM
  constructor
  · intro h
    rcases h with ⟨_, h⟩ | ⟨h0, h⟩
    · exact Or.inl h
    · by_cases e1 : cr a1 a2 b1 b2 x y = 0
      · exact Or.inl (Or.inl (on_bal (c1 := c1) (c2 := c2) e1 (by omega)))
      · by_cases e2 : cr b1 b2 c1 c2 x y = 0
        · exact Or.inl (Or.inr (Or.inl (on_bal (c1 := a1) (c2 := a2) e2 (by omega))))
        · by_cases e3 : cr c1 c2 a1 a2 x y = 0
          · exact Or.inl (Or.inr (Or.inr (on_bal (c1 := b1) (c2 := b2) e3 (by omega))))
          · right; unfold st3; omega
  · intro h
    by_cases d0 : cr a1 a2 b1 b2 c1 c2 = 0
    · rcases h with h | h
      · exact Or.inl ⟨d0, h⟩
      · unfold st3 at h; omega
    · refine Or.inr ⟨d0, ?_⟩
      have on1 : ∀ {p1 p2 q1 q2 r1 r2 : Int}, onS p1 p2 q1 q2 x y → cr p1 p2 q1 q2 r1 r2 ≠ 0 → cr p1 p2 q1 q2 x y + cr q1 q2 r1 r2 x y + cr r1 r2 p1 p2 x y = cr p1 p2 q1 q2 r1 r2 → (0 ≤ cr q1 q2 r1 r2 x y ∧ 0 ≤ cr r1 r2 p1 p2 x y) ∨ (cr q1 q2 r1 r2 x y ≤ 0 ∧ cr r1 r2 p1 p2 x y ≤ 0) := by
        intro p1 p2 q1 q2 r1 r2 g gd gs
        have i1 := bary (p1 - x) (p2 - y) (q1 - x) (q2 - y) (r1 - x) (r2 - y)
        have i2 := barx (p1 - x) (p2 - y) (q1 - x) (q2 - y) (r1 - x) (r2 - y)
        rw [← cr_rel, ← cr_rel, ← cr_rel] at i1 i2
        obtain ⟨g0, g1, g2, g3, g4⟩ := g
        rw [g0, Int.zero_mul, Int.add_zero] at i1 i2
        have hd : p1 = q1 → p2 = q2 → cr p1 p2 q1 q2 r1 r2 = 0 := fun e1 e2 => by unfold cr; rw [e1, e2]; simp
        generalize cr q1 q2 r1 r2 x y = v at *
        generalize cr r1 r2 p1 p2 x y = w at *
        apply Classical.byContradiction
        intro hn
        have hvw : (0 < v ∧ w < 0) ∨ (v < 0 ∧ 0 < w) := by omega
        have q2' : ∀ p q : Int, v * p + w * q = 0 → ((p ≤ 0 ∧ 0 ≤ q) ∨ (0 ≤ p ∧ q ≤ 0)) → p = 0 ∧ q = 0 := by
          intro p q e hp
          rcases hvw with hv | hv
          · rcases hp with hp | hp
            · have a := pm (Int.le_of_lt hv.1) hp.1; have b := mp (Int.le_of_lt hv.2) hp.2
              have z1 : p = 0 := Classical.byContradiction fun z => by have := pn hv.1 (show p < 0 by omega); omega
              have z2 : q = 0 := Classical.byContradiction fun z => by have := np hv.2 (show 0 < q by omega); omega
              exact ⟨z1, z2⟩
            · have a := pz (Int.le_of_lt hv.1) hp.1; have b := mm9 (Int.le_of_lt hv.2) hp.2
              have z1 : p = 0 := Classical.byContradiction fun z => by have := pp hv.1 (show 0 < p by omega); omega
              have z2 : q = 0 := Classical.byContradiction fun z => by have := Int.mul_pos_of_neg_of_neg hv.2 (show q < 0 by omega); omega
              exact ⟨z1, z2⟩
          · rcases hp with hp | hp
            · have a := mm9 (Int.le_of_lt hv.1) hp.1; have b := pz (Int.le_of_lt hv.2) hp.2
              have z1 : p = 0 := Classical.byContradiction fun z => by have := Int.mul_pos_of_neg_of_neg hv.1 (show p < 0 by omega); omega
              have z2 : q = 0 := Classical.byContradiction fun z => by have := pp hv.2 (show 0 < q by omega); omega
              exact ⟨z1, z2⟩
            · have a := mp (Int.le_of_lt hv.1) hp.1; have b := pm (Int.le_of_lt hv.2) hp.2
              have z1 : p = 0 := Classical.byContradiction fun z => by have := np hv.1 (show 0 < p by omega); omega
              have z2 : q = 0 := Classical.byContradiction fun z => by have := pn hv.2 (show q < 0 by omega); omega
              exact ⟨z1, z2⟩
        have y1 := q2' _ _ i1 (by omega)
        have x1 := q2' _ _ i2 (by omega)
        exact gd (hd (by omega) (by omega))
      rcases h with (h | h | h) | h
      · have k := on1 h d0 hs; have := h.1; omega
      · have e : cr b1 b2 c1 c2 a1 a2 = cr a1 a2 b1 b2 c1 c2 := by have := cr_sum b1 b2 c1 c2 a1 a2 x y; omega
        have k := on1 (r1 := a1) (r2 := a2) h (by rw [e]; exact d0) (by rw [e]; omega); have := h.1; omega
      · have e : cr c1 c2 a1 a2 b1 b2 = cr a1 a2 b1 b2 c1 c2 := by have := cr_sum c1 c2 a1 a2 b1 b2 x y; omega
        have k := on1 (r1 := b1) (r2 := b2) h (by rw [e]; exact d0) (by rw [e]; omega); have := h.1; omega
      · unfold st3 at h; omega
/-- the class's triangle is the reference's -/
theorem wtR_iff {a1 a2 b1 b2 c1 c2 : Int32} {x y : Int} : wtR a1 a2 b1 b2 c1 c2 x y ↔ wtM a1.toInt a2.toInt b1.toInt b2.toInt c1.toInt c2.toInt x y := by
  rw [wtM_iff]
  have o : (∃ i, i < 3 ∧ eOn 3 (tr3 a1 b1 c1) (tr3 a2 b2 c2) i x y) ↔ (onS a1.toInt a2.toInt b1.toInt b2.toInt x y ∨ onS b1.toInt b2.toInt c1.toInt c2.toInt x y ∨ onS c1.toInt c2.toInt a1.toInt a2.toInt x y) := by
    constructor
    · rintro ⟨i, hi, h⟩
      rcases (show i = 0 ∨ i = 1 ∨ i = 2 by omega) with rfl | rfl | rfl
      · exact Or.inl h
      · exact Or.inr (Or.inl h)
      · exact Or.inr (Or.inr h)
    · rintro (h | h | h)
      · exact ⟨0, by omega, h⟩
      · exact ⟨1, by omega, h⟩
      · exact ⟨2, by omega, h⟩
  unfold wtR
  by_cases e : ∃ i, i < 3 ∧ eOn 3 (tr3 a1 b1 c1) (tr3 a2 b2 c2) i x y
  · rw [whr_2 e]; exact ⟨fun _ => Or.inl (o.mp e), fun _ => by decide⟩
  · rw [whr_n e]
    have n := fun h => e (o.mpr h)
    have t := tri_p (fun h => n (Or.inl h)) (fun h => n (Or.inr (Or.inl h))) (fun h => n (Or.inr (Or.inr h)))
    have p3 : par2 (eTg 3 (tr3 a1 b1 c1) (tr3 a2 b2 c2) x y) 3 ↔ st3 (cr a1.toInt a2.toInt b1.toInt b2.toInt x y) (cr b1.toInt b2.toInt c1.toInt c2.toInt x y) (cr c1.toInt c2.toInt a1.toInt a2.toInt x y) := by
      rw [← t]
      have g0 : eTg 3 (tr3 a1 b1 c1) (tr3 a2 b2 c2) x y 0 ↔ tg2 a1.toInt a2.toInt b1.toInt b2.toInt x y := Iff.rfl
      have g1 : eTg 3 (tr3 a1 b1 c1) (tr3 a2 b2 c2) x y 1 ↔ tg2 b1.toInt b2.toInt c1.toInt c2.toInt x y := Iff.rfl
      have g2 : eTg 3 (tr3 a1 b1 c1) (tr3 a2 b2 c2) x y 2 ↔ tg2 c1.toInt c2.toInt a1.toInt a2.toInt x y := Iff.rfl
      have z : ¬ par2 (eTg 3 (tr3 a1 b1 c1) (tr3 a2 b2 c2) x y) 0 := fun h => h
      by_cases q0 : tg2 a1.toInt a2.toInt b1.toInt b2.toInt x y <;> by_cases q1 : tg2 b1.toInt b2.toInt c1.toInt c2.toInt x y <;> by_cases q2 : tg2 c1.toInt c2.toInt a1.toInt a2.toInt x y <;>
        (first | rw [par2_y (i := 2) (g2.mpr q2)] | rw [par2_n (i := 2) (fun h => q2 (g2.mp h))]) <;> (first | rw [par2_y (i := 1) (g1.mpr q1)] | rw [par2_n (i := 1) (fun h => q1 (g1.mp h))]) <;> (first | rw [par2_y (i := 0) (g0.mpr q0)] | rw [par2_n (i := 0) (fun h => q0 (g0.mp h))]) <;> simp [q0, q1, q2, z]
    constructor
    · intro h
      refine Or.inr (p3.mp (Classical.byContradiction fun q => h ?_))
      rw [zp_f q]; decide
    · rintro (h | h)
      · exact absurd h n
      · rw [zp_t (p3.mpr h)]; decide
end
section
/-! a point's way: the class's words and the reference's -/
theorem par3 {p1 p2 q1 q2 e1 e2 : Int} (hp : p1 * e2 = p2 * e1) (hq : q1 * e2 = q2 * e1) (he : ¬ (e1 = 0 ∧ e2 = 0)) : p1 * q2 - p2 * q1 = 0 := by
  by_cases h1 : e1 = 0
  · have h2 : e2 ≠ 0 := fun h => he ⟨h1, h⟩
    rw [h1, Int.mul_zero] at hp hq
    have a := (Int.mul_eq_zero.mp hp).resolve_right h2
    have b := (Int.mul_eq_zero.mp hq).resolve_right h2
    rw [a, b]; simp
  · have k : (p1 * q2 - p2 * q1) * e1 = 0 := by
      have a : p1 * q2 * e1 = p1 * (q1 * e2) := by rw [hq, Int.mul_assoc]
      have b : p2 * q1 * e1 = p1 * (q1 * e2) := by rw [Int.mul_assoc, Int.mul_comm q1 e1, ← Int.mul_assoc, ← hp, Int.mul_assoc, Int.mul_comm e2 q1]
      rw [Int.sub_mul, a, b]; omega
    exact (Int.mul_eq_zero.mp k).resolve_right h1
theorem way_iff {a1 a2 b1 b2 c1 c2 d1 d2 : Int} (ho : onS c1 c2 d1 d2 a1 a2) : (¬ ldT a1 a2 b1 b2 c1 c2 ∧ ¬ ldT a1 a2 b1 b2 d1 d2) ↔ ((a1 = b1 ∧ a2 = b2) ∨ (c1 = d1 ∧ c2 = d2) ∨ ¬ (b1 - a1) * (d2 - c2) - (b2 - a2) * (d1 - c1) = 0 ∨ (¬ 0 < dt c1 c2 a1 a2 b1 b2 ∧ ¬ 0 < dt d1 d2 a1 a2 b1 b2)) := by
  have e1 : dt c1 c2 a1 a2 b1 b2 = nrT a1 a2 b1 b2 c1 c2 := by unfold dt nrT; simp only [Int.sub_mul, Int.mul_sub, Int.mul_comm]
  have e2 : dt d1 d2 a1 a2 b1 b2 = nrT a1 a2 b1 b2 d1 d2 := by unfold dt nrT; simp only [Int.sub_mul, Int.mul_sub, Int.mul_comm]
  rw [e1, e2]
  have h0 : (d1 - c1) * (a2 - c2) = (d2 - c2) * (a1 - c1) := by have := ho.1; unfold cr at this; omega
  have z1 : c1 = a1 → c2 = a2 → nrT a1 a2 b1 b2 c1 c2 = 0 := fun g1 g2 => by unfold nrT; rw [g1, g2]; simp
  have z2 : d1 = a1 → d2 = a2 → nrT a1 a2 b1 b2 d1 d2 = 0 := fun g1 g2 => by unfold nrT; rw [g1, g2]; simp
  have zb : a1 = b1 → a2 = b2 → ∀ x y, nrT a1 a2 b1 b2 x y = 0 := fun g1 g2 x y => by unfold nrT; rw [g1, g2]; simp
  constructor
  · rintro ⟨n1, n2⟩
    by_cases k1 : a1 = b1 ∧ a2 = b2
    · exact Or.inl k1
    · by_cases k2 : c1 = d1 ∧ c2 = d2
      · exact Or.inr (Or.inl k2)
      · by_cases k3 : (b1 - a1) * (d2 - c2) - (b2 - a2) * (d1 - c1) = 0
        · have he : ¬ (d1 - c1 = 0 ∧ d2 - c2 = 0) := fun h => k2 ⟨by omega, by omega⟩
          have hb : (b1 - a1) * (d2 - c2) = (b2 - a2) * (d1 - c1) := by omega
          have hc : (c1 - a1) * (d2 - c2) = (c2 - a2) * (d1 - c1) := by
            have x1 : (c1 - a1) * (d2 - c2) = -((d2 - c2) * (a1 - c1)) := by simp only [Int.sub_mul, Int.mul_sub, Int.mul_comm]; omega
            have x2 : (c2 - a2) * (d1 - c1) = -((d1 - c1) * (a2 - c2)) := by simp only [Int.sub_mul, Int.mul_sub, Int.mul_comm]; omega
            rw [x1, x2, h0]
          have hd : (d1 - a1) * (d2 - c2) = (d2 - a2) * (d1 - c1) := by
            have x1 : (d1 - a1) * (d2 - c2) = (c1 - a1) * (d2 - c2) + (d1 - c1) * (d2 - c2) := by rw [← Int.add_mul]; congr 1; omega
            have x2 : (d2 - a2) * (d1 - c1) = (c2 - a2) * (d1 - c1) + (d2 - c2) * (d1 - c1) := by rw [← Int.add_mul]; congr 1; omega
            rw [x1, x2, hc, Int.mul_comm (d1 - c1) (d2 - c2)]
          have r1 := par3 hb hc he
          have r2 := par3 hb hd he
          refine Or.inr (Or.inr (Or.inr ⟨fun g => n1 ⟨?_, g⟩, fun g => n2 ⟨?_, g⟩⟩))
          · unfold cr; exact r1
          · unfold cr; exact r2
        · exact Or.inr (Or.inr (Or.inl k3))
  · intro h
    have main : ∀ x1 x2 : Int, (x1 = a1 → x2 = a2 → nrT a1 a2 b1 b2 x1 x2 = 0) → (x1 - a1) * (d2 - c2) = (x2 - a2) * (d1 - c1) → ((¬ (b1 - a1) * (d2 - c2) - (b2 - a2) * (d1 - c1) = 0) → ¬ ldT a1 a2 b1 b2 x1 x2) := by
      intro x1 x2 hz hx hn g
      have hne : ¬ (x1 - a1 = 0 ∧ x2 - a2 = 0) := fun q => by have := hz (by omega) (by omega); have := g.2; omega
      have g1 : (b1 - a1) * (x2 - a2) = (b2 - a2) * (x1 - a1) := by have := g.1; unfold cr at this; omega
      have g2 : (d1 - c1) * (x2 - a2) = (d2 - c2) * (x1 - a1) := by rw [Int.mul_comm (d1 - c1), Int.mul_comm (d2 - c2)]; exact hx.symm
      exact hn (par3 g1 g2 hne)
    have hc : (c1 - a1) * (d2 - c2) = (c2 - a2) * (d1 - c1) := by
      have x1 : (c1 - a1) * (d2 - c2) = -((d2 - c2) * (a1 - c1)) := by simp only [Int.sub_mul, Int.mul_sub, Int.mul_comm]; omega
      have x2 : (c2 - a2) * (d1 - c1) = -((d1 - c1) * (a2 - c2)) := by simp only [Int.sub_mul, Int.mul_sub, Int.mul_comm]; omega
      rw [x1, x2, h0]
    have hd : (d1 - a1) * (d2 - c2) = (d2 - a2) * (d1 - c1) := by
      have x1 : (d1 - a1) * (d2 - c2) = (c1 - a1) * (d2 - c2) + (d1 - c1) * (d2 - c2) := by rw [← Int.add_mul]; congr 1; omega
      have x2 : (d2 - a2) * (d1 - c1) = (c2 - a2) * (d1 - c1) + (d2 - c2) * (d1 - c1) := by rw [← Int.add_mul]; congr 1; omega
      rw [x1, x2, hc, Int.mul_comm (d1 - c1) (d2 - c2)]
    rcases h with h | h | h | h
    · exact ⟨fun g => by have := zb h.1 h.2 c1 c2; have := g.2; omega, fun g => by have := zb h.1 h.2 d1 d2; have := g.2; omega⟩
    · have ea : a1 = c1 ∧ a2 = c2 := by obtain ⟨_, h1, h2, h3, h4⟩ := ho; omega
      exact ⟨fun g => by have := z1 ea.1.symm ea.2.symm; have := g.2; omega, fun g => by have := z2 (by omega) (by omega); have := g.2; omega⟩
    · exact ⟨main c1 c2 z1 hc h, main d1 d2 z2 hd h⟩
    · exact ⟨fun g => h.1 g.2, fun g => h.2 g.2⟩
theorem wy_fWy {x0 y0 x1 y1 : Int} {m : Nat} {U V : Nat → Int32} {k : Nat} : wyF2 x0 y0 x1 y1 m U V k ↔ fWy x0 y0 x1 y1 m U V k := by
  unfold wyF2 fWy oAt
  exact imp_congr_right fun _ => ⟨fun h => ⟨h.1, (way_iff h.1).mp h.2⟩, fun h => ⟨h.1, (way_iff h.1).mpr h.2⟩⟩
end
section
/-! what lies apart from the box of all that moves is as before -/
theorem mnI_le {z : Int} {X : Nat → Int32} : ∀ {n k : Nat}, k < n → mnI z X n ≤ (X k).toInt := by
  intro n
  induction n with
  | zero => intro k hk; exact absurd hk (Nat.not_lt_zero _)
  | succ n ih =>
    intro k hk
    rw [mnI_s]
    rcases Nat.lt_or_ge k n with q | q
    · have := ih q; omega
    · rw [show k = n by omega]; omega
theorem le_mxI {z : Int} {X : Nat → Int32} : ∀ {n k : Nat}, k < n → (X k).toInt ≤ mxI z X n := by
  intro n
  induction n with
  | zero => intro k hk; exact absurd hk (Nat.not_lt_zero _)
  | succ n ih =>
    intro k hk
    rw [mxI_s]
    rcases Nat.lt_or_ge k n with q | q
    · have := ih q; omega
    · rw [show k = n by omega]; omega
theorem mnI_z {z : Int} {X : Nat → Int32} : ∀ n, mnI z X n ≤ z := by
  intro n
  induction n with
  | zero => exact Int.le_refl _
  | succ n ih => rw [mnI_s]; omega
theorem mxI_z {z : Int} {X : Nat → Int32} : ∀ n, z ≤ mxI z X n := by
  intro n
  induction n with
  | zero => exact Int.le_refl _
  | succ n ih => rw [mxI_s]; omega
/-- all of one row lie on one side of all of another -/
def sepR (n : Nat) (X Y : Nat → Int32) (m : Nat) (U V : Nat → Int32) : Prop :=
  (∀ i, i < n → ∀ j, j < m → (X i).toInt < (U j).toInt) ∨ (∀ i, i < n → ∀ j, j < m → (U j).toInt < (X i).toInt) ∨ (∀ i, i < n → ∀ j, j < m → (Y i).toInt < (V j).toInt) ∨ (∀ i, i < n → ∀ j, j < m → (V j).toInt < (Y i).toInt)
/-- a row inside a box -/
def inB (l o r h : Int) (n : Nat) (X Y : Nat → Int32) : Prop := ∀ i, i < n → (l ≤ (X i).toInt ∧ (X i).toInt ≤ r) ∧ (o ≤ (Y i).toInt ∧ (Y i).toInt ≤ h)
theorem ap_sep {l o r h : Int} {n m : Nat} {X Y U V : Nat → Int32} (hb : inB l o r h n X Y) (ha : apB l o r h m U V) : sepR n X Y m U V := by
  rcases ha with g | g | g | g
  · exact Or.inl fun i hi j hj => by have := (hb i hi).1; have := mnI_le (z := (U 0).toInt) (X := U) hj; omega
  · exact Or.inr (Or.inl fun i hi j hj => by have := (hb i hi).1; have := le_mxI (z := (U 0).toInt) (X := U) hj; omega)
  · exact Or.inr (Or.inr (Or.inl fun i hi j hj => by have := (hb i hi).2; have := mnI_le (z := (V 0).toInt) (X := V) hj; omega))
  · exact Or.inr (Or.inr (Or.inr fun i hi j hj => by have := (hb i hi).2; have := le_mxI (z := (V 0).toInt) (X := V) hj; omega))
section
variable {n m : Nat} {X Y U V : Nat → Int32}
theorem sep_mt (h : sepR n X Y m U V) {i j : Nat} (hi : i < n) (hj : j < m) : ¬ eMt n X Y i m U V j := by
  have h2 := nxt_lt (n := n) (i := i) (by omega); have h3 := nxt_lt (n := m) (i := j) (by omega)
  intro g
  unfold eMt mtC at g
  have g1 := g.1; have g2 := g.2.1
  rcases h with h | h | h | h
  · have := h i hi j hj; have := h i hi _ h3; have := h _ h2 j hj; have := h _ h2 _ h3; omega
  · have := h i hi j hj; have := h i hi _ h3; have := h _ h2 j hj; have := h _ h2 _ h3; omega
  · have := h i hi j hj; have := h i hi _ h3; have := h _ h2 j hj; have := h _ h2 _ h3; omega
  · have := h i hi j hj; have := h i hi _ h3; have := h _ h2 j hj; have := h _ h2 _ h3; omega
theorem sep_tch (h : sepR n X Y m U V) {rg rh : Int32} : ¬ tch n X Y rg m U V rh := fun ⟨i, hi, j, hj, g⟩ => by
  have := prt_le n rg; have := prt_le m rh
  exact sep_mt h (by omega) (by omega) g
theorem sep_in (h : sepR n X Y m U V) (hn : 1 ≤ n) {j : Nat} (hj : j < m) : ¬ inF 5 n X Y (U j).toInt (V j).toInt := by
  rw [← whr_in, whr_out hn (by
    rcases h with h | h | h | h
    · exact Or.inl fun i hi => h i hi j hj
    · exact Or.inr (Or.inl fun i hi => h i hi j hj)
    · exact Or.inr (Or.inr (Or.inl fun i hi => h i hi j hj))
    · exact Or.inr (Or.inr (Or.inr fun i hi => h i hi j hj)))]
  decide
theorem sep_ni (h : sepR n X Y m U V) (hm : 1 ≤ m) {i : Nat} (hi : i < n) : ¬ inF 5 m U V (X i).toInt (Y i).toInt := by
  rw [← whr_in, whr_out hm (by
    rcases h with h | h | h | h
    · exact Or.inr (Or.inl fun j hj => h i hi j hj)
    · exact Or.inl fun j hj => h i hi j hj
    · exact Or.inr (Or.inr (Or.inr fun j hj => h i hi j hj))
    · exact Or.inr (Or.inr (Or.inl fun j hj => h i hi j hj)))]
  decide
/-- a triangle of corners in a box has no place that lies apart from it -/
theorem box_wt {l o r h : Int} {a1 a2 b1 b2 c1 c2 : Int32} {x y : Int} (ha : (l ≤ a1.toInt ∧ a1.toInt ≤ r) ∧ (o ≤ a2.toInt ∧ a2.toInt ≤ h)) (hb : (l ≤ b1.toInt ∧ b1.toInt ≤ r) ∧ (o ≤ b2.toInt ∧ b2.toInt ≤ h)) (hc : (l ≤ c1.toInt ∧ c1.toInt ≤ r) ∧ (o ≤ c2.toInt ∧ c2.toInt ≤ h)) (hx : r < x ∨ x < l ∨ h < y ∨ y < o) : ¬ wtR a1 a2 b1 b2 c1 c2 x y := by
  unfold wtR
  rw [whr_out (n := 3) (by decide) (by
    have k : ∀ i, i < 3 → i = 0 ∨ i = 1 ∨ i = 2 := fun i hi => by omega
    rcases hx with g | g | g | g
    · refine Or.inl fun i hi => ?_
      rcases k i hi with rfl | rfl | rfl
      · show a1.toInt < x; omega
      · show b1.toInt < x; omega
      · show c1.toInt < x; omega
    · refine Or.inr (Or.inl fun i hi => ?_)
      rcases k i hi with rfl | rfl | rfl
      · show x < a1.toInt; omega
      · show x < b1.toInt; omega
      · show x < c1.toInt; omega
    · refine Or.inr (Or.inr (Or.inl fun i hi => ?_))
      rcases k i hi with rfl | rfl | rfl
      · show a2.toInt < y; omega
      · show b2.toInt < y; omega
      · show c2.toInt < y; omega
    · refine Or.inr (Or.inr (Or.inr fun i hi => ?_))
      rcases k i hi with rfl | rfl | rfl
      · show y < a2.toInt; omega
      · show y < b2.toInt; omega
      · show y < c2.toInt; omega)]
  decide
end
theorem ap_out {l o r h : Int} {m : Nat} {U V : Nat → Int32} (ha : apB l o r h m U V) {j : Nat} (hj : j < m) : r < (U j).toInt ∨ (U j).toInt < l ∨ h < (V j).toInt ∨ (V j).toInt < o := by
  have a := mnI_le (z := (U 0).toInt) (X := U) hj; have b := le_mxI (z := (U 0).toInt) (X := U) hj
  have c := mnI_le (z := (V 0).toInt) (X := V) hj; have d := le_mxI (z := (V 0).toInt) (X := V) hj
  unfold apB at ha; omega
theorem mv_in {n nd : Nat} {X Y P Q : Nat → Int32} : inB (mnI (mnI (X 0).toInt X n) P nd) (mnI (mnI (Y 0).toInt Y n) Q nd) (mxI (mxI (X 0).toInt X n) P nd) (mxI (mxI (Y 0).toInt Y n) Q nd) n X Y ∧ inB (mnI (mnI (X 0).toInt X n) P nd) (mnI (mnI (Y 0).toInt Y n) Q nd) (mxI (mxI (X 0).toInt X n) P nd) (mxI (mxI (Y 0).toInt Y n) Q nd) nd P Q := by
  refine ⟨fun i hi => ?_, fun i hi => ?_⟩
  · have a := mnI_le (z := (X 0).toInt) (X := X) hi; have b := le_mxI (z := (X 0).toInt) (X := X) hi; have c := mnI_le (z := (Y 0).toInt) (X := Y) hi; have d := le_mxI (z := (Y 0).toInt) (X := Y) hi
    have e := mnI_z (z := mnI (X 0).toInt X n) (X := P) nd; have f := mxI_z (z := mxI (X 0).toInt X n) (X := P) nd; have g := mnI_z (z := mnI (Y 0).toInt Y n) (X := Q) nd; have k := mxI_z (z := mxI (Y 0).toInt Y n) (X := Q) nd
    omega
  · exact ⟨⟨mnI_le hi, le_mxI hi⟩, mnI_le hi, le_mxI hi⟩
/-- the prune of a move: as before, nothing swept, and a free way -/
theorem ap_asb {n nd m : Nat} {X Y P Q U V : Nat → Int32} {rg rd rh : Int32} {l o r h : Int} (hn : 1 ≤ n) (hd : 1 ≤ nd) (hm : 1 ≤ m) (h1 : inB l o r h n X Y) (h2 : inB l o r h nd P Q) (ha : apB l o r h m U V) : asb n X Y rg nd P Q rd m U V rh := by
  have s1 := ap_sep h1 ha; have s2 := ap_sep h2 ha
  exact ⟨⟨fun g => absurd g (sep_tch s1), fun g => absurd g (sep_tch s2)⟩, fun _ k hk => ⟨fun g => absurd g (sep_in s1 hn hk), fun g => absurd g (sep_in s2 hd hk)⟩, fun _ => ⟨fun g => absurd g (sep_ni s1 hm (by omega)), fun g => absurd g (sep_ni s2 hm (by omega))⟩⟩
theorem ap_swM {n m : Nat} {X Y P Q U V : Nat → Int32} {rg : Int32} {l o r h : Int} (h1 : inB l o r h n X Y) (h2 : inB l o r h n P Q) (ha : apB l o r h m U V) : ¬ ∃ i, i < edg n rg ∧ ∃ k, k < m ∧ swR n X Y P Q (U k).toInt (V k).toInt i := by
  rintro ⟨i, hi, k, hk, _, g⟩
  have le := edg_le n rg
  have hx := nxt_lt (n := n) (i := i) (by omega)
  have ho := ap_out ha hk
  rcases g with g | g
  · exact box_wt (h1 i (by omega)) (h1 _ hx) (h2 _ hx) ho g
  · exact box_wt (h1 i (by omega)) (h2 i (by omega)) (h2 _ hx) ho g
theorem ap_wy {nd n m : Nat} {X Y P Q U V : Nat → Int32} {rh : Int32} {l o r h : Int} (hn : 1 ≤ n) (hd : 1 ≤ nd) (h1 : inB l o r h n X Y) (h2 : inB l o r h nd P Q) (ha : apB l o r h m U V) : ∀ k, k < prt m rh → wyF2 (X 0).toInt (Y 0).toInt (P 0).toInt (Q 0).toInt m U V k := by
  intro k hk g
  exfalso
  have le := prt_le m rh
  have hx := nxt_lt (n := m) (i := k) (by omega)
  have a := h1 0 (by omega); have b := h2 0 (by omega)
  have m1 := mnI_le (z := (U 0).toInt) (X := U) (show k < m by omega); have m2 := le_mxI (z := (U 0).toInt) (X := U) (show k < m by omega); have m3 := mnI_le (z := (V 0).toInt) (X := V) (show k < m by omega); have m4 := le_mxI (z := (V 0).toInt) (X := V) (show k < m by omega)
  have p1 := mnI_le (z := (U 0).toInt) (X := U) hx; have p2 := le_mxI (z := (U 0).toInt) (X := U) hx; have p3 := mnI_le (z := (V 0).toInt) (X := V) hx; have p4 := le_mxI (z := (V 0).toInt) (X := V) hx
  have g1 := g.1; have g2 := g.2.1
  unfold apB at ha
  omega
end
section
/-! a corner goes: what lies apart from its triangle is as before -/
def phi (k j : Nat) : Nat := if j < k then j else j + 1
def gap (n k : Nat) : Nat := prv (n - 1) (gpK (n - 1) k)
theorem gap_e {n k : Nat} (hk : k < n) (hn : 3 ≤ n) : gap n k = if k = 0 then n - 2 else k - 1 := by
  unfold gap gpK prv
  repeat' split
  all_goals omega
theorem ct_phi (X : Nat → Int32) (k j : Nat) : ctF X k j = X (phi k j) := by unfold ctF phi; split <;> rfl
theorem phi_gap {n k : Nat} (hk : k < n) (hn : 3 ≤ n) : phi k (gap n k) = prv n k ∧ phi k (nxt (n - 1) (gap n k)) = nxt n k := by
  rw [gap_e hk hn]
  unfold phi prv nxt
  constructor <;> (repeat' split) <;> omega
theorem phi_nx {n k j : Nat} (hk : k < n) (hn : 3 ≤ n) (hj : j < n - 1) (hg : j ≠ gap n k) : phi k (nxt (n - 1) j) = nxt n (phi k j) ∧ phi k j < n ∧ phi k j ≠ k ∧ phi k j ≠ prv n k := by
  rw [gap_e hk hn] at hg
  have hg2 : (k = 0 → j ≠ n - 2) ∧ (k ≠ 0 → j ≠ k - 1) := by
    by_cases h0 : k = 0
    · rw [if_pos h0] at hg; omega
    · rw [if_neg h0] at hg; omega
  clear hg
  unfold phi prv nxt
  refine ⟨?_, ?_, ?_, ?_⟩ <;> (repeat' split) <;> omega
theorem phi_ex {n k i : Nat} (hk : k < n) (hn : 3 ≤ n) (hi : i < n) (h1 : i ≠ k) (h2 : i ≠ prv n k) : ∃ j, j < n - 1 ∧ j ≠ gap n k ∧ phi k j = i := by
  rw [gap_e hk hn]
  have h3 : (k = 0 → i ≠ n - 1) ∧ (k ≠ 0 → i ≠ k - 1) := by
    unfold prv at h2
    by_cases h0 : 0 < k
    · rw [if_pos h0] at h2; omega
    · rw [if_neg h0] at h2; omega
  unfold phi
  by_cases q : i < k
  · exact ⟨i, by omega, by split <;> omega, by rw [if_pos q]⟩
  · exact ⟨i - 1, by omega, by split <;> omega, by rw [if_neg (by omega)]; omega⟩
section
variable {n k : Nat} {X Y : Nat → Int32}
theorem ct_mt (hk : k < n) (hn : 3 ≤ n) {j : Nat} (hj : j < n - 1) (hg : j ≠ gap n k) {m q : Nat} {U V : Nat → Int32} : eMt (n - 1) (ctF X k) (ctF Y k) j m U V q = eMt n X Y (phi k j) m U V q := by
  have e := phi_nx hk hn hj hg
  unfold eMt; rw [ct_phi, ct_phi, ct_phi, ct_phi, e.1]
theorem ct_on (hk : k < n) (hn : 3 ≤ n) {j : Nat} (hj : j < n - 1) (hg : j ≠ gap n k) {x y : Int} : eOn (n - 1) (ctF X k) (ctF Y k) j x y = eOn n X Y (phi k j) x y := by
  have e := phi_nx hk hn hj hg
  unfold eOn; rw [ct_phi, ct_phi, ct_phi, ct_phi, e.1]
theorem ct_tg (hk : k < n) (hn : 3 ≤ n) {j : Nat} (hj : j < n - 1) (hg : j ≠ gap n k) {x y : Int} : eTg (n - 1) (ctF X k) (ctF Y k) x y j = eTg n X Y x y (phi k j) := by
  have e := phi_nx hk hn hj hg
  unfold eTg eCr; rw [ct_phi, ct_phi, ct_phi, ct_phi, e.1]
end
/-- three corners in a box, a place apart from it: the third edge turns the parity as the first two do -/
theorem tg_box {a1 a2 b1 b2 c1 c2 x y l o r h : Int} (ha : (l ≤ a1 ∧ a1 ≤ r) ∧ (o ≤ a2 ∧ a2 ≤ h)) (hb : (l ≤ b1 ∧ b1 ≤ r) ∧ (o ≤ b2 ∧ b2 ≤ h)) (hc : (l ≤ c1 ∧ c1 ≤ r) ∧ (o ≤ c2 ∧ c2 ≤ h)) (hx : r < x ∨ x < l ∨ h < y ∨ y < o) : tg2 a1 a2 c1 c2 x y ↔ (tg2 a1 a2 b1 b2 x y ↔ ¬ tg2 b1 b2 c1 c2 x y) := by
  have left : ∀ {p1 p2 q1 q2 : Int}, x < p1 → x < q1 → (tg2 p1 p2 q1 q2 x y ↔ (y < p2 ↔ ¬ y < q2)) := by
    intro p1 p2 q1 q2 g1 g2
    refine ⟨fun g => g.1, fun g => ⟨g, ?_⟩⟩
    have t := tg_left (a1 := -p1) (a2 := p2) (b1 := -q1) (b2 := q2) (x := -x) (y := y) (by omega) (by omega) g
    have e : cr (-p1) p2 (-q1) q2 (-x) y = - cr p1 p2 q1 q2 x y := by unfold cr; grind
    rw [e] at t
    by_cases q : p2 < q2
    · exact Or.inl ⟨q, by have := t.1 q; omega⟩
    · exact Or.inr ⟨q, by have := t.2 q; omega⟩
  have right : ∀ {p1 p2 q1 q2 : Int}, p1 < x → q1 < x → ¬ tg2 p1 p2 q1 q2 x y := by
    intro p1 p2 q1 q2 g1 g2 g
    have t := tg_left g1 g2 g.1
    rcases g.2 with q | q
    · have := t.1 q.1; omega
    · have := t.2 q.1; omega
  rcases hx with g | g | g | g
  · have t1 := right (p1 := a1) (p2 := a2) (q1 := c1) (q2 := c2) (by omega) (by omega)
    have t2 := right (p1 := a1) (p2 := a2) (q1 := b1) (q2 := b2) (by omega) (by omega)
    have t3 := right (p1 := b1) (p2 := b2) (q1 := c1) (q2 := c2) (by omega) (by omega)
    simp [t1, t2, t3]
  · rw [left (by omega) (by omega), left (by omega) (by omega), left (by omega) (by omega)]
    by_cases s1 : y < a2 <;> by_cases s2 : y < b2 <;> by_cases s3 : y < c2 <;> simp [s1, s2, s3]
  · have t1 : ¬ tg2 a1 a2 c1 c2 x y := fun q => by have := q.1; omega
    have t2 : ¬ tg2 a1 a2 b1 b2 x y := fun q => by have := q.1; omega
    have t3 : ¬ tg2 b1 b2 c1 c2 x y := fun q => by have := q.1; omega
    simp [t1, t2, t3]
  · have t1 : ¬ tg2 a1 a2 c1 c2 x y := fun q => by have := q.1; omega
    have t2 : ¬ tg2 a1 a2 b1 b2 x y := fun q => by have := q.1; omega
    have t3 : ¬ tg2 b1 b2 c1 c2 x y := fun q => by have := q.1; omega
    simp [t1, t2, t3]
theorem par2_x {A : Nat → Prop} {i : Nat} : par2 A (i + 1) ↔ (par2 A i ↔ ¬ A i) := by
  by_cases h : A i
  · rw [par2_y h]; by_cases g : par2 A i <;> simp [g, h]
  · rw [par2_n h]; simp [h]
/-- the parities, where one edge stands for two -/
theorem par_cut {A B : Nat → Prop} {n k : Nat} (hk : k < n) (hn : 3 ≤ n) (h : ∀ j, j < n - 1 → j ≠ gap n k → (B j ↔ A (phi k j))) (hg : B (gap n k) ↔ (A (prv n k) ↔ ¬ A k)) : par2 A n ↔ par2 B (n - 1) := by
  rw [gap_e hk hn] at h hg
  by_cases h0 : k = 0
  · subst h0
    simp only [if_true] at h hg
    have hp : prv n 0 = n - 1 := by unfold prv; rw [if_neg (by omega)]
    rw [hp] at hg
    have st : ∀ t, t ≤ n - 2 → (par2 A (1 + t) ↔ (A 0 ↔ ¬ par2 B t)) := by
      intro t
      induction t with
      | zero => intro _; show par2 A (0 + 1) ↔ _; rw [par2_x]; show (False ↔ ¬ A 0) ↔ (A 0 ↔ ¬ False); by_cases q : A 0 <;> simp [q]
      | succ t ih =>
        intro ht
        have e := h t (by omega) (by omega)
        rw [show phi 0 t = t + 1 from if_neg (by omega)] at e
        rw [show 1 + (t + 1) = (1 + t) + 1 by omega, par2_x, ih (by omega), par2_x, show 1 + t = t + 1 by omega, e]
        by_cases q : A 0 <;> by_cases q2 : par2 B t <;> by_cases q3 : A (t + 1) <;> simp [q, q2, q3]
    have e1 : par2 A n ↔ (par2 A (1 + (n - 2)) ↔ ¬ A (n - 1)) := by
      have := par2_x (A := A) (i := n - 1)
      rw [show n - 1 + 1 = n by omega] at this
      rw [this, show 1 + (n - 2) = n - 1 by omega]
    have e2 : par2 B (n - 1) ↔ (par2 B (n - 2) ↔ ¬ B (n - 2)) := by
      have := par2_x (A := B) (i := n - 2)
      rw [show n - 2 + 1 = n - 1 by omega] at this; exact this
    rw [e1, st (n - 2) (Nat.le_refl _), e2, hg]
    by_cases q : A 0 <;> by_cases q2 : par2 B (n - 2) <;> by_cases q3 : A (n - 1) <;> simp [q, q2, q3]
  · simp only [h0, if_false] at h hg
    have hp : prv n k = k - 1 := by unfold prv; rw [if_pos (by omega)]
    rw [hp] at hg
    obtain ⟨c, rfl⟩ : ∃ c, k = c + 1 := ⟨k - 1, by omega⟩
    simp only [Nat.add_sub_cancel] at h hg
    have lo : par2 A c ↔ par2 B c := par2_cg c fun j hj => by
      have e := h j (by omega) (by omega)
      rw [show phi (c + 1) j = j from if_pos (by omega)] at e; exact e.symm
    have mid : par2 A (c + 2) ↔ par2 B (c + 1) := by
      rw [show c + 2 = (c + 1) + 1 from rfl, par2_x, par2_x, par2_x (A := B), lo, hg]
      by_cases q : par2 B c <;> by_cases q2 : A c <;> by_cases q3 : A (c + 1) <;> simp [q, q2, q3]
    have st : ∀ t, c + 1 + t ≤ n - 1 → (par2 A (c + 2 + t) ↔ par2 B (c + 1 + t)) := by
      intro t
      induction t with
      | zero => intro _; exact mid
      | succ t ih =>
        intro ht
        have e := h (c + 1 + t) (by omega) (by omega)
        rw [show phi (c + 1) (c + 1 + t) = c + 2 + t from (if_neg (by omega)).trans (by omega)] at e
        rw [show c + 2 + (t + 1) = (c + 2 + t) + 1 by omega, show c + 1 + (t + 1) = (c + 1 + t) + 1 by omega, par2_x, par2_x, ih (by omega), e]
    have := st (n - 1 - (c + 1)) (by omega)
    rw [show c + 2 + (n - 1 - (c + 1)) = n by omega, show c + 1 + (n - 1 - (c + 1)) = n - 1 by omega] at this
    exact this
/-- the triangle's box -/
theorem ap_cut {n k m : Nat} {X Y U V : Nat → Int32} {rg rh : Int32} {l o r h : Int} (hk : k < n) (hr : (¬ rg.toInt = 0 ∧ 4 ≤ n) ∨ (rg.toInt = 0 ∧ 0 < k ∧ k < n - 1)) (hm : 1 ≤ m) (ha : apB l o r h m U V)
    (hp : (l ≤ (X (prv n k)).toInt ∧ (X (prv n k)).toInt ≤ r) ∧ (o ≤ (Y (prv n k)).toInt ∧ (Y (prv n k)).toInt ≤ h)) (hc : (l ≤ (X k).toInt ∧ (X k).toInt ≤ r) ∧ (o ≤ (Y k).toInt ∧ (Y k).toInt ≤ h)) (hx : (l ≤ (X (nxt n k)).toInt ∧ (X (nxt n k)).toInt ≤ r) ∧ (o ≤ (Y (nxt n k)).toInt ∧ (Y (nxt n k)).toInt ≤ h)) :
    asb n X Y rg (n - 1) (ctF X k) (ctF Y k) rg m U V rh ∧ ¬ ∃ j, j < m ∧ swC n X Y k (U j).toInt (V j).toInt := by
  have hn : 3 ≤ n := by omega
  have hpv := prv_lt (n := n) (i := k) hk
  have hgl : gap n k < n - 1 := by rw [gap_e hk hn]; split <;> omega
  have pg := phi_gap hk hn
  -- an edge of two corners in the box meets nobody apart from it
  have nomt : ∀ {a1 a2 b1 b2 : Int}, ((l ≤ a1 ∧ a1 ≤ r) ∧ (o ≤ a2 ∧ a2 ≤ h)) → ((l ≤ b1 ∧ b1 ≤ r) ∧ (o ≤ b2 ∧ b2 ≤ h)) → ∀ q, q < m → ¬ mtC a1 a2 b1 b2 (U q).toInt (V q).toInt (U (nxt m q)).toInt (V (nxt m q)).toInt := by
    intro a1 a2 b1 b2 g1 g2 q hq g
    have hx := nxt_lt (n := m) (i := q) (by omega)
    have m1 := mnI_le (z := (U 0).toInt) (X := U) hq; have m2 := le_mxI (z := (U 0).toInt) (X := U) hq; have m3 := mnI_le (z := (V 0).toInt) (X := V) hq; have m4 := le_mxI (z := (V 0).toInt) (X := V) hq
    have p1 := mnI_le (z := (U 0).toInt) (X := U) hx; have p2 := le_mxI (z := (U 0).toInt) (X := U) hx; have p3 := mnI_le (z := (V 0).toInt) (X := V) hx; have p4 := le_mxI (z := (V 0).toInt) (X := V) hx
    have q1 := g.1; have q2 := g.2.1
    unfold apB at ha
    omega
  have nxp : nxt n (prv n k) = k := by unfold nxt prv; (repeat' split) <;> omega
  have e1 : ∀ q, q < m → ¬ eMt n X Y k m U V q := fun q hq => nomt hc hx q hq
  have e2 : ∀ q, q < m → ¬ eMt n X Y (prv n k) m U V q := fun q hq => by unfold eMt; rw [nxp]; exact nomt hp hc q hq
  have e3 : ∀ q, q < m → ¬ eMt (n - 1) (ctF X k) (ctF Y k) (gap n k) m U V q := fun q hq => by unfold eMt; rw [ct_phi, ct_phi, ct_phi, ct_phi, pg.1, pg.2]; exact nomt hp hx q hq
  have pm2 := prt_le m rh
  have po : prt n rg = if rg.toInt = 0 then n - 1 else n := by unfold prt edg; rw [if_neg (by omega), if_neg (by omega)]
  have pd : prt (n - 1) rg = if rg.toInt = 0 then n - 2 else n - 1 := by
    unfold prt edg
    by_cases q : n - 1 = 1
    · omega
    · rw [if_neg q, if_neg (by omega)]; split <;> omega
  refine ⟨⟨⟨?_, ?_⟩, fun hrd q hq => ?_, fun _ => ?_⟩, ?_⟩
  · rintro ⟨i, hi, q, hq, g⟩
    have hi2 : i < n := by rw [po] at hi; split at hi <;> omega
    have i1 : i ≠ k := fun e => e1 q (by omega) (by rw [← e]; exact g)
    have i2 : i ≠ prv n k := fun e => e2 q (by omega) (by rw [← e]; exact g)
    obtain ⟨j, hj, hjg, ej⟩ := phi_ex hk hn hi2 i1 i2
    refine ⟨j, ?_, q, hq, by rw [ct_mt hk hn hj hjg, ej]; exact g⟩
    rw [pd]; rw [po] at hi
    by_cases z : rg.toInt = 0
    · rw [if_pos z] at hi ⊢
      have : ¬ j = n - 2 := fun e => by
        have : phi k j = n - 1 := by unfold phi; rw [if_neg (by omega)]; omega
        omega
      omega
    · rw [if_neg z]; exact hj
  · rintro ⟨j, hj, q, hq, g⟩
    have hj2 : j < n - 1 := by rw [pd] at hj; split at hj <;> omega
    have jg : j ≠ gap n k := fun e => e3 q (by omega) (by rw [← e]; exact g)
    have pn := phi_nx hk hn hj2 jg
    refine ⟨phi k j, ?_, q, hq, by rw [← ct_mt hk hn hj2 jg]; exact g⟩
    rw [po]; rw [pd] at hj
    by_cases z : rg.toInt = 0
    · rw [if_pos z] at hj ⊢; unfold phi; split <;> omega
    · rw [if_neg z]; exact pn.2.1
  · have out := ap_out ha hq
    have eo : ∀ z, eO 5 z = z := fun z => by unfold eO; rw [if_neg (by decide), if_pos (by decide)]
    unfold inF
    rw [eo, eo]
    have noon : ∀ {a1 a2 b1 b2 : Int}, ((l ≤ a1 ∧ a1 ≤ r) ∧ (o ≤ a2 ∧ a2 ≤ h)) → ((l ≤ b1 ∧ b1 ≤ r) ∧ (o ≤ b2 ∧ b2 ≤ h)) → ¬ onS a1 a2 b1 b2 (U q).toInt (V q).toInt := by
      intro a1 a2 b1 b2 g1 g2 g
      obtain ⟨_, z1, z2, z3, z4⟩ := g
      omega
    refine and_congr (not_congr ⟨?_, ?_⟩) ?_
    · rintro ⟨i, hi, g⟩
      have i1 : i ≠ k := fun e => noon hc hx (by rw [e] at g; exact g)
      have i2 : i ≠ prv n k := fun e => noon hp hc (by rw [e] at g; unfold eOn at g; rw [nxp] at g; exact g)
      obtain ⟨j, hj, hjg, ej⟩ := phi_ex hk hn hi i1 i2
      exact ⟨j, hj, by rw [ct_on hk hn hj hjg, ej]; exact g⟩
    · rintro ⟨j, hj, g⟩
      have jg : j ≠ gap n k := fun e => noon hp hx (by rw [e] at g; unfold eOn at g; rw [ct_phi, ct_phi, ct_phi, ct_phi, pg.1, pg.2] at g; exact g)
      exact ⟨phi k j, (phi_nx hk hn hj jg).2.1, by rw [← ct_on hk hn hj jg]; exact g⟩
    · refine par_cut hk hn (fun j hj hjg => by rw [ct_tg hk hn hj hjg]) ?_
      have t := tg_box (a1 := (X (prv n k)).toInt) (a2 := (Y (prv n k)).toInt) (b1 := (X k).toInt) (b2 := (Y k).toInt) (c1 := (X (nxt n k)).toInt) (c2 := (Y (nxt n k)).toInt) hp hc hx out
      have g1 : eTg (n - 1) (ctF X k) (ctF Y k) (U q).toInt (V q).toInt (gap n k) ↔ tg2 (X (prv n k)).toInt (Y (prv n k)).toInt (X (nxt n k)).toInt (Y (nxt n k)).toInt (U q).toInt (V q).toInt := by
        unfold eTg eCr tg2; rw [ct_phi, ct_phi, ct_phi, ct_phi, pg.1, pg.2]
      have g2 : eTg n X Y (U q).toInt (V q).toInt (prv n k) ↔ tg2 (X (prv n k)).toInt (Y (prv n k)).toInt (X k).toInt (Y k).toInt (U q).toInt (V q).toInt := by
        unfold eTg eCr tg2; rw [nxp]
      have g3 : eTg n X Y (U q).toInt (V q).toInt k ↔ tg2 (X k).toInt (Y k).toInt (X (nxt n k)).toInt (Y (nxt n k)).toInt (U q).toInt (V q).toInt := Iff.rfl
      rw [g1, g2, g3]; exact t
  · by_cases h0 : k = 0
    · subst h0
      have z : ctF X 0 0 = X (nxt n 0) ∧ ctF Y 0 0 = Y (nxt n 0) := by
        have : nxt n 0 = 1 := by unfold nxt; rw [if_pos (by omega)]
        rw [this]; exact ⟨rfl, rfl⟩
      rw [z.1, z.2]
      have ni : ∀ {x y : Int}, ((l ≤ x ∧ x ≤ r) ∧ (o ≤ y ∧ y ≤ h)) → ¬ inF 5 m U V x y := by
        intro x y g
        rw [← whr_in, whr_out hm (by
          unfold apB at ha
          rcases ha with q | q | q | q
          · exact Or.inr (Or.inl fun j hj => by have := mnI_le (z := (U 0).toInt) (X := U) hj; omega)
          · exact Or.inl fun j hj => by have := le_mxI (z := (U 0).toInt) (X := U) hj; omega
          · exact Or.inr (Or.inr (Or.inr fun j hj => by have := mnI_le (z := (V 0).toInt) (X := V) hj; omega))
          · exact Or.inr (Or.inr (Or.inl fun j hj => by have := le_mxI (z := (V 0).toInt) (X := V) hj; omega)))]
        decide
      exact ⟨fun g => absurd g (ni hc), fun g => absurd g (ni hx)⟩
    · have z : ctF X k 0 = X 0 ∧ ctF Y k 0 = Y 0 := ⟨if_pos (by omega), if_pos (by omega)⟩
      rw [z.1, z.2]
  · rintro ⟨j, hj, g⟩
    exact box_wt hp hc hx (ap_out ha hj) g.2.2
end
section
/-! a corner goes: only the edge over the gap is new -/
theorem mtC_sy {a1 a2 b1 b2 c1 c2 d1 d2 : Int} (h : mtC a1 a2 b1 b2 c1 c2 d1 d2) : mtC c1 c2 d1 d2 a1 a2 b1 b2 := by
  obtain ⟨h1, h2, h3, h4⟩ := h
  exact ⟨fun g => h1 (by omega), fun g => h2 (by omega), h4, h3⟩
/-- two edges of one row get on -/
def eC (n : Nat) (X Y : Nat → Int32) (i j : Nat) : Prop := (nxt n i = j → ¬ eFd n X Y j) ∧ (nxt n i ≠ j → nxt n j = i → ¬ eFd n X Y i) ∧ (nxt n i ≠ j → nxt n j ≠ i → ¬ eMt n X Y i n X Y j)
theorem nxt_no2 {n i j : Nat} (hn : 3 ≤ n) (hi : i < n) (hj : j < n) (h : nxt n i = j) : nxt n j ≠ i := by
  unfold nxt at h ⊢
  split at h <;> split <;> omega
theorem eC_sy {n : Nat} {X Y : Nat → Int32} {i j : Nat} (hn : 3 ≤ n) (hi : i < n) (hj : j < n) (h : eC n X Y i j) : eC n X Y j i := by
  refine ⟨fun g => ?_, fun g g2 => ?_, fun g g2 => ?_⟩
  · exact h.2.1 (nxt_no2 hn hj hi g) g
  · exact h.1 g2
  · exact fun q => h.2.2 g2 g (mtC_sy q)
theorem eFr_e {n : Nat} {X Y : Nat → Int32} {rg : Int32} {i f : Nat} : eFr n X Y rg i f ↔ (¬ ((X i).toInt = (X (nxt n i)).toInt ∧ (Y i).toInt = (Y (nxt n i)).toInt) ∧ ∀ j, f ≤ j → j < edg n rg → j ≠ i → eC n X Y i j) := Iff.rfl
theorem phi_inj {k i j : Nat} (h : phi k i = phi k j) : i = j := by unfold phi at h; split at h <;> split at h <;> omega
theorem phi_lt {k i j : Nat} (h : i < j) : phi k i < phi k j := by unfold phi; split <;> split <;> omega
theorem prv_nx {n i : Nat} (hi : i < n) : prv n (nxt n i) = i := by unfold prv nxt; (repeat' split) <;> omega
/-- two old edges get on as they did -/
theorem eC_cut {n k : Nat} {X Y : Nat → Int32} {i j : Nat} (hk : k < n) (hn : 4 ≤ n) (hi : i < n - 1) (hj : j < n - 1) (gi : i ≠ gap n k) (gj : j ≠ gap n k) (h : eC n X Y (phi k i) (phi k j)) : eC (n - 1) (ctF X k) (ctF Y k) i j := by
  have pi := phi_nx hk (by omega) hi gi; have pj := phi_nx hk (by omega) hj gj
  have ni := nxt_lt (n := n - 1) (i := i) (by omega); have nj := nxt_lt (n := n - 1) (i := j) (by omega)
  -- the fold at a corner between two old edges
  have fd : ∀ {s t : Nat}, s < n - 1 → t < n - 1 → s ≠ gap n k → t ≠ gap n k → nxt (n - 1) s = t → (eFd (n - 1) (ctF X k) (ctF Y k) t ↔ eFd n X Y (phi k t)) := by
    intro s t hs ht gs gt e
    have ps := phi_nx hk (by omega) hs gs; have pt := phi_nx hk (by omega) ht gt
    have e1 : prv (n - 1) t = s := by rw [← e]; exact prv_nx hs
    have e2 : prv n (phi k t) = phi k s := by rw [← e, ps.1]; exact prv_nx ps.2.1
    unfold eFd
    rw [ct_phi, ct_phi, ct_phi, ct_phi, ct_phi, ct_phi, e1, e2, pt.1]
  refine ⟨fun g => ?_, fun g g2 => ?_, fun g g2 => ?_⟩
  · rw [fd hi hj gi gj g]; exact h.1 (by rw [← pi.1, g])
  · rw [fd hj hi gj gi g2]; exact h.2.1 (fun q => g (phi_inj (by rw [pi.1]; exact q))) (by rw [← pj.1, g2])
  · rw [ct_mt hk (by omega) hi gi]
    unfold eMt
    rw [ct_phi, ct_phi, ct_phi, ct_phi, pj.1]
    exact h.2.2 (fun q => g (phi_inj (by rw [pi.1]; exact q))) (fun q => g2 (phi_inj (by rw [pj.1]; exact q)))
/-- where all edges got on before, the row without a corner is sound just where the edge over the gap gets on with all -/
theorem gap_snd {n k : Nat} {X Y : Nat → Int32} {rg : Int32} (hk : k < n) (hr : (¬ rg.toInt = 0 ∧ 4 ≤ n) ∨ (rg.toInt = 0 ∧ 0 < k ∧ k < n - 1)) (ho : ∀ i, i < edg n rg → eFr n X Y rg i (i + 1)) :
    eFr (n - 1) (ctF X k) (ctF Y k) rg (gap n k) 0 ↔ ∀ i, i < edg (n - 1) rg → eFr (n - 1) (ctF X k) (ctF Y k) rg i (i + 1) := by
  have hn : 3 ≤ n := by omega
  have pd : edg (n - 1) rg = if rg.toInt = 0 then n - 2 else n - 1 := by unfold edg; rw [if_neg (by omega)]; split <;> omega
  have po : edg n rg = if rg.toInt = 0 then n - 1 else n := by unfold edg; rw [if_neg (by omega)]
  have gl : gap n k < edg (n - 1) rg := by
    rw [gap_e hk hn, pd]
    split <;> split <;> omega
  have le : edg (n - 1) rg ≤ n - 1 := by rw [pd]; split <;> omega
  have el : ∀ j, j < edg (n - 1) rg → phi k j < edg n rg := fun j hj => by
    rw [po]; rw [pd] at hj; unfold phi
    split at hj <;> (repeat' split) <;> omega
  have two : ∀ {i j : Nat}, i < edg (n - 1) rg → j < edg (n - 1) rg → i ≠ j → 4 ≤ n := by
    intro i j hi hj hij
    rw [pd] at hi hj
    by_cases z : rg.toInt = 0
    · rw [if_pos z] at hi hj; omega
    · omega
  have oldC : ∀ {i j : Nat}, i < edg n rg → j < edg n rg → i < j → eC n X Y i j := fun hi hj hij => (ho _ hi).2 _ hij hj (by omega)
  have oldN : ∀ i, i < edg (n - 1) rg → i ≠ gap n k → ¬ ((ctF X k i).toInt = (ctF X k (nxt (n - 1) i)).toInt ∧ (ctF Y k i).toInt = (ctF Y k (nxt (n - 1) i)).toInt) := fun i hi gi => by
    rw [ct_phi, ct_phi, ct_phi, ct_phi, (phi_nx hk hn (by omega) gi).1]
    exact (ho _ (el i hi)).1
  constructor
  · intro h i hi
    refine eFr_e.mpr ⟨?_, fun j h1 hj hji => ?_⟩
    · by_cases gi : i = gap n k
      · rw [gi]; exact h.1
      · exact oldN i hi gi
    · have h4 := two hi hj (fun q => hji q.symm)
      by_cases gi : i = gap n k
      · rw [gi]; exact h.2 j (Nat.zero_le _) hj (by omega)
      · by_cases gj : j = gap n k
        · rw [gj]; exact eC_sy (by omega) (by omega) (by omega) (h.2 i (Nat.zero_le _) hi gi)
        · exact eC_cut hk h4 (by omega) (by omega) gi gj (oldC (el i hi) (el j hj) (phi_lt (by omega)))
  · intro h
    refine eFr_e.mpr ⟨(h _ gl).1, fun j _ hj hjg => ?_⟩
    have h4 := two hj gl hjg
    rcases Nat.lt_or_ge (gap n k) j with q | q
    · exact (h _ gl).2 j q hj hjg
    · exact eC_sy (by omega) (by omega) (by omega) ((h j hj).2 (gap n k) (by omega) gl (fun e => hjg e.symm))
end
section
/-! the class's law is the reference's: a corner goes -/
theorem rgK_t (k : Int) : (rgK k).toInt = if 5 ≤ k then 1 else 0 := by unfold rgK; split <;> decide
theorem rgK_0 (k : Int) : (rgK k).toInt = 0 ↔ ¬ 5 ≤ k := by rw [rgK_t]; split <;> omega
def okK (k : Int) (n : Nat) : Prop := (k = 0 ∧ n = 1) ∨ (¬ k = 0 ∧ 2 ≤ n)
theorem inF_5 {k : Int} {n : Nat} {X Y : Nat → Int32} {x y : Int} (h : 5 ≤ k) : inF k n X Y x y ↔ inF 5 n X Y x y := by
  have e1 : eO k n = n := by unfold eO; rw [if_neg (by omega), if_pos h]
  have e2 : eO 5 n = n := by unfold eO; rw [if_neg (by decide), if_pos (by decide)]
  unfold inF; rw [e1, e2]
theorem tch_mt {kf kg : Int} {n m : Nat} {X Y U V : Nat → Int32} (h1 : okK kf n) (h2 : okK kg m) : tch n X Y (rgK kf) m U V (rgK kg) ↔ mtF kf n X Y kg m U V := by
  show (∃ i, i < prt n (rgK kf) ∧ ∃ j, j < prt m (rgK kg) ∧ eMt n X Y i m U V j) ↔ _
  rw [prt_eO (rgK_t kf) h1, prt_eO (rgK_t kg) h2]; rfl
theorem asb_law {kf kd kg : Int} {n nd m : Nat} {X Y P Q U V : Nat → Int32} (h1 : okK kf n) (h2 : okK kd nd) (h3 : okK kg m) (hr : 5 ≤ kf ↔ 5 ≤ kd) : asb n X Y (rgK kf) nd P Q (rgK kd) m U V (rgK kg) ↔ ((mtF kd nd P Q kg m U V ↔ mtF kf n X Y kg m U V) ∧ (5 ≤ kg → (inF kg m U V (P 0).toInt (Q 0).toInt ↔ inF kg m U V (X 0).toInt (Y 0).toInt)) ∧ ∀ k, k < m → (5 ≤ kd → (inF kd nd P Q (U k).toInt (V k).toInt ↔ inF kf n X Y (U k).toInt (V k).toInt))) := by
  unfold asb
  rw [tch_mt h1 h3, tch_mt h2 h3, rgK_0, rgK_0]
  constructor
  · rintro ⟨a, b, c⟩
    refine ⟨a.symm, fun g => ?_, fun k hk g => ?_⟩
    · rw [inF_5 g, inF_5 g]; exact (c (fun q => q g)).symm
    · rw [inF_5 g, inF_5 (hr.mpr g)]; exact (b (fun q => q g) k hk).symm
  · rintro ⟨a, b, c⟩
    refine ⟨a.symm, fun g k hk => ?_, fun g => ?_⟩
    · have g := Classical.not_not.mp g
      have := c k hk g; rw [inF_5 g, inF_5 (hr.mpr g)] at this; exact this.symm
    · have g := Classical.not_not.mp g
      have := b g; rw [inF_5 g, inF_5 g] at this; exact this.symm
theorem swC_B {n : Nat} {X Y : Nat → Int32} {b : Nat} {x y : Int} : swC n X Y b x y ↔ swB n X Y b x y := by
  unfold swC swB
  rw [wtR_iff]
  exact and_congr (not_congr ⟨fun h => ⟨h.1.symm, h.2.symm⟩, fun h => ⟨h.1.symm, h.2.symm⟩⟩) (and_congr (not_congr ⟨fun h => ⟨h.1.symm, h.2.symm⟩, fun h => ⟨h.1.symm, h.2.symm⟩⟩) Iff.rfl)
theorem law_cut {kf kg : Int} {n nd m k : Nat} {X Y P Q U V : Nat → Int32} {x0 y0 : Int32} (h0 : ¬ kf = 0) (h1 : okK kf n) (h2 : okK kf nd) (h3 : okK kg m) :
    (asb n X Y (rgK kf) nd P Q (rgK kf) m U V (rgK kg) ∧ ¬ ∃ j, j < m ∧ swC n X Y k (U j).toInt (V j).toInt) ↔ lawTo x0 y0 kf nd P Q kg m U V (mtF kf n X Y kg m U V) (inF kg m U V (X 0).toInt (Y 0).toInt) (fun j => inF kf n X Y (U j).toInt (V j).toInt) (fun j => swB n X Y k (U j).toInt (V j).toInt) := by
  rw [asb_law h1 h2 h3 Iff.rfl]
  unfold lawTo
  constructor
  · rintro ⟨⟨a, b, c⟩, d⟩
    exact ⟨a, b, fun j hj => ⟨c j hj, fun _ g => d ⟨j, hj, swC_B.mpr g⟩⟩, fun g => absurd g h0⟩
  · rintro ⟨a, b, c, _⟩
    exact ⟨⟨a, b, fun j hj => (c j hj).1⟩, fun ⟨j, hj, g⟩ => (c j hj).2 h0 (swC_B.mp g)⟩
theorem fWy_cg {x0 y0 x1 y1 : Int} {m : Nat} {U V S T : Nat → Int32} {k : Nat} (hk : k < m) (h : ∀ j, j < m → U j = S j ∧ V j = T j) : fWy x0 y0 x1 y1 m U V k = fWy x0 y0 x1 y1 m S T k := by
  have hx := nxt_lt (n := m) (i := k) (by omega)
  unfold fWy; rw [(h k hk).1, (h k hk).2, (h _ hx).1, (h _ hx).2]
theorem lawTo_cg {x0 y0 : Int32} {kf kg : Int} {n m : Nat} {P Q A B U V S T : Nat → Int32} {mt wi : Prop} {ins sw sv : Nat → Prop} (hn : 1 ≤ n) (hm : 1 ≤ m) (h : ∀ j, j < n → P j = A j ∧ Q j = B j) (g : ∀ j, j < m → U j = S j ∧ V j = T j) (hs : ∀ k, k < m → (sw k ↔ sv k)) :
    lawTo x0 y0 kf n P Q kg m U V mt wi ins sw ↔ lawTo x0 y0 kf n A B kg m S T mt wi ins sv := by
  have le := eO_le (k := kg) (n := m) hm
  unfold lawTo
  rw [mtF_cg hn hm h g, (h 0 (by omega)).1, (h 0 (by omega)).2]
  refine and_congr Iff.rfl (and_congr (imp_congr_right fun _ => by rw [inF_cg hm g]) (and_congr (forall_congr' fun k => imp_congr_right fun hk => ?_) (imp_congr_right fun _ => forall_congr' fun k => imp_congr_right fun hk => by rw [fWy_cg (by omega) g])))
  rw [inF_cg hn h, (g k hk).1, (g k hk).2, hs k hk]
theorem shp_ct {f k n : Nat} {c : Nat → Int32} : ∀ j, j < n - 1 → cF40 (shp f k (n - 1) c) f j = ctF (cF40 c f) k j := by
  intro j hj
  show shp f k (n - 1) c (40 * f + j) = if j < k then c (40 * f + j) else c (40 * f + (j + 1))
  unfold shp
  by_cases q : j < k
  · rw [if_neg (by omega), if_pos q]
  · rw [if_pos (by omega), if_neg q]; rfl
theorem shp_ot {f k n q : Nat} {c : Nat → Int32} (hq : q ≠ f) (hn : n ≤ 40) : ∀ j, j < 40 → cF40 (shp f k (n - 1) c) q j = cF40 c q j := by
  intro j hj
  show shp f k (n - 1) c (40 * q + j) = c (40 * q + j)
  unfold shp; rw [if_neg (by omega)]
/-- the class's law and the reference's, where a corner goes -/
theorem alC_lw {ft : Nat} {st tn kd mn cx cy : Nat → Int32} {f n k : Nat} (hk : k < n) (hn : n ≤ 40) (hkd : 1 ≤ (kd f).toInt ∧ (kd f).toInt ≤ 5) (hr : (5 ≤ (kd f).toInt ∧ 4 ≤ n) ∨ (¬ 5 ≤ (kd f).toInt ∧ 0 < k ∧ k < n - 1)) (hs : mSm (kd f).toInt n (cF40 cx f) (cF40 cy f)) (hwf : ∀ q, lvF ft st tn q → wfM mn cx cy q) (hkn : okN ft st tn kd mn) :
    alC ft st tn kd mn cx cy f n (cF40 cx f) (cF40 cy f) (rgK (kd f).toInt) (n - 1) (ctF (cF40 cx f) k) (ctF (cF40 cy f) k) (rgK (kd f).toInt) k ↔ lwP ft st tn kd mn cx cy f n k := by
  have hrg : (¬ (rgK (kd f).toInt).toInt = 0 ∧ 4 ≤ n) ∨ ((rgK (kd f).toInt).toInt = 0 ∧ 0 < k ∧ k < n - 1) := by rw [rgK_0]; omega
  have h3 : 3 ≤ n := by omega
  have c1 : ∀ j, j < n - 1 → cF40 (shp f k (n - 1) cx) f j = ctF (cF40 cx f) k j ∧ cF40 (shp f k (n - 1) cy) f j = ctF (cF40 cy f) k j := fun j hj => ⟨shp_ct j hj, shp_ct j hj⟩
  have o1 : okK (kd f).toInt n := Or.inr ⟨by omega, by omega⟩
  have o2 : okK (kd f).toInt (n - 1) := Or.inr ⟨by omega, by omega⟩
  have hso := (snd_iff (rg := rgK (kd f).toInt) (rgK_t _) (by omega) (by unfold mnc; split <;> omega)).mpr hs
  have sm : mSm (kd f).toInt (n - 1) (ctF (cF40 cx f) k) (ctF (cF40 cy f) k) ↔ eFr (n - 1) (ctF (cF40 cx f) k) (ctF (cF40 cy f) k) (rgK (kd f).toInt) (gap n k) 0 := by
    rw [← snd_iff (rg := rgK (kd f).toInt) (rgK_t _) (by omega) (by unfold mnc; split <;> omega), gap_snd hk hrg hso.1]
    exact ⟨fun h => h.1, fun h => ⟨h, Or.inl (by omega)⟩⟩
  unfold alC lwP lwA
  rw [pls_cg c1]
  refine and_congr_right fun _ => and_congr (sm.symm.trans ⟨mSm_cg fun j hj => ⟨(c1 j hj).1.symm, (c1 j hj).2.symm⟩, mSm_cg c1⟩) ?_
  have one : ∀ q, lvF ft st tn q → q ≠ f → ((apB (min (min (cF40 cx f k).toInt (cF40 cx f (prv n k)).toInt) (cF40 cx f (nxt n k)).toInt) (min (min (cF40 cy f k).toInt (cF40 cy f (prv n k)).toInt) (cF40 cy f (nxt n k)).toInt) (max (max (cF40 cx f k).toInt (cF40 cx f (prv n k)).toInt) (cF40 cx f (nxt n k)).toInt) (max (max (cF40 cy f k).toInt (cF40 cy f (prv n k)).toInt) (cF40 cy f (nxt n k)).toInt) (nN (mn q)) (cF40 cx q) (cF40 cy q) ∨ (asb n (cF40 cx f) (cF40 cy f) (rgK (kd f).toInt) (n - 1) (ctF (cF40 cx f) k) (ctF (cF40 cy f) k) (rgK (kd f).toInt) (nN (mn q)) (cF40 cx q) (cF40 cy q) (rgK (kd q).toInt) ∧ (¬ ∃ j, j < nN (mn q) ∧ swC n (cF40 cx f) (cF40 cy f) k (cF40 cx q j).toInt (cF40 cy q j).toInt))) ↔
      lawTo (cF40 cx f 0) (cF40 cy f 0) (kd f).toInt (n - 1) (cF40 (shp f k (n - 1) cx) f) (cF40 (shp f k (n - 1) cy) f) (kd q).toInt (nN (upd mn f (nI (n - 1)) q)) (cF40 (shp f k (n - 1) cx) q) (cF40 (shp f k (n - 1) cy) q) (bMt kd mn cx cy f n q) (bWi kd mn cx cy f q) (bIn kd cx cy f n q) (sWp n (cF40 cx f) (cF40 cy f) (shp f k (n - 1) cx) (shp f k (n - 1) cy) k q)) := by
    intro q hq hqf
    have w := hwf q hq
    have c2 : ∀ j, j < nN (mn q) → cF40 (shp f k (n - 1) cx) q j = cF40 cx q j ∧ cF40 (shp f k (n - 1) cy) q j = cF40 cy q j := fun j hj => ⟨shp_ot hqf hn j (by have := w.2.1; omega), shp_ot hqf hn j (by have := w.2.1; omega)⟩
    rw [show upd mn f (nI (n - 1)) q = mn q from if_neg hqf]
    have cut := @ap_cut n k (nN (mn q)) (cF40 cx f) (cF40 cy f) (cF40 cx q) (cF40 cy q) (rgK (kd f).toInt) (rgK (kd q).toInt) (min (min (cF40 cx f k).toInt (cF40 cx f (prv n k)).toInt) (cF40 cx f (nxt n k)).toInt) (min (min (cF40 cy f k).toInt (cF40 cy f (prv n k)).toInt) (cF40 cy f (nxt n k)).toInt) (max (max (cF40 cx f k).toInt (cF40 cx f (prv n k)).toInt) (cF40 cx f (nxt n k)).toInt) (max (max (cF40 cy f k).toInt (cF40 cy f (prv n k)).toInt) (cF40 cy f (nxt n k)).toInt) hk hrg w.2.1.1
    rw [lawTo_cg (A := ctF (cF40 cx f) k) (B := ctF (cF40 cy f) k) (S := cF40 cx q) (T := cF40 cy q) (sv := fun j => swB n (cF40 cx f) (cF40 cy f) k (cF40 cx q j).toInt (cF40 cy q j).toInt) (by omega) w.2.1.1 c1 c2 (fun j hj => by show swB n (cF40 cx f) (cF40 cy f) k (cF40 (shp f k (n - 1) cx) q j).toInt (cF40 (shp f k (n - 1) cy) q j).toInt ↔ _; rw [(c2 j hj).1, (c2 j hj).2])]
    rw [← law_cut (by omega) o1 o2 (hkn q hq)]
    exact ⟨fun g => g.elim (fun g => cut g (by omega) (by omega) (by omega)) id, Or.inr⟩
  constructor
  · intro h q hq hqf; exact (one q hq hqf).mp (h q hq.1 hqf hq)
  · intro h q _ hqf hq; exact (one q hq hqf).mpr (h q hq hqf)
/-- which corner may go: the class's word is the reference's -/
theorem go_iff {ft : Nat} {st tn kd mn cx cy : Nat → Int32} {f n L k : Nat} {lim : Int32} (hL : lim.toInt = ((L : Nat) : Int)) (hk : k < n) (hn : n ≤ 40) (hkd : 1 ≤ (kd f).toInt ∧ (kd f).toInt ≤ 5) (hr : ¬ 5 ≤ (kd f).toInt ∨ 4 ≤ n) (h2 : 2 ≤ n) (hs : mSm (kd f).toInt n (cF40 cx f) (cF40 cy f)) (hwf : ∀ q, lvF ft st tn q → wfM mn cx cy q) (hkn : okN ft st tn kd mn) :
    goK ft st tn kd mn cx cy f n (cF40 cx f) (cF40 cy f) (rgK (kd f).toInt) lim k ↔ (cnd ft st tn kd mn cx cy f n L k ∧ lwP ft st tn kd mn cx cy f n k) := by
  have nxp : nxt n (prv n k) = k := by unfold nxt prv; (repeat' split) <;> omega
  have et : arT n (cF40 cx f) (cF40 cy f) k = trF cx cy f n k := by unfold arT eCr; rw [nxp]
  unfold goK cnd mGo arE bareK
  rw [et, hL, rgK_0]
  constructor
  · rintro ⟨a, b, c, d⟩
    have hr2 : (5 ≤ (kd f).toInt ∧ 4 ≤ n) ∨ (¬ 5 ≤ (kd f).toInt ∧ 0 < k ∧ k < n - 1) := by omega
    exact ⟨⟨⟨by omega, fun ⟨q, hq, hqf, g⟩ => c q hq.1 hqf hq g⟩, by omega⟩, (alC_lw hk hn hkd hr2 hs hwf hkn).mp d⟩
  · rintro ⟨⟨⟨a, c⟩, b⟩, d⟩
    have hr2 : (5 ≤ (kd f).toInt ∧ 4 ≤ n) ∨ (¬ 5 ≤ (kd f).toInt ∧ 0 < k ∧ k < n - 1) := by omega
    exact ⟨by omega, by omega, fun q _ hqf hq g => c ⟨q, hq, hqf, g⟩, (alC_lw hk hn hkd hr2 hs hwf hkn).mpr d⟩
end
section
/-! the class's law is the reference's: corners move, or a row becomes its box -/
section
variable (ft : Nat) (st tn kd mn cx cy : Nat → Int32) (f0 n : Nat) (X Y : Nat → Int32) (rg : Int32) (nd : Nat) (P Q : Nat → Int32) (rd kd9 : Int32)
abbrev apMv (q : Nat) : Prop := apB (mnI (mnI (X 0).toInt X n) P nd) (mnI (mnI (Y 0).toInt Y n) Q nd) (mxI (mxI (X 0).toInt X n) P nd) (mxI (mxI (Y 0).toInt Y n) Q nd) (nN (mn q)) (cF40 cx q) (cF40 cy q)
abbrev asQ (q : Nat) : Prop := asb n X Y rg nd P Q rd (nN (mn q)) (cF40 cx q) (cF40 cy q) (rgK (kd q).toInt)
abbrev sndK : Prop := (∀ i, i < edg nd rd → eFr nd P Q rd i (i + 1)) ∧ (¬ kd9.toInt = 6 ∨ ∀ k, k < nd → eRt nd P Q k)
/-- lawful: corners move -/
def alM : Prop := pls nd P Q ∧ sndK nd P Q rd kd9 ∧ ∀ q, q < ft → (q ≠ f0 → lvF ft st tn q → (apMv mn cx cy n X Y nd P Q q ∨ (asQ kd mn cx cy n X Y rg nd P Q rd q ∧ (¬ ∃ i, i < edg n rg ∧ ∃ k, k < nN (mn q) ∧ swR n X Y P Q (cF40 cx q k).toInt (cF40 cy q k).toInt i))))
/-- lawful: a point moves -/
def alW : Prop := pls nd P Q ∧ sndK nd P Q rd kd9 ∧ ∀ q, q < ft → (q ≠ f0 → lvF ft st tn q → (apMv mn cx cy n X Y nd P Q q ∨ (asQ kd mn cx cy n X Y rg nd P Q rd q ∧ (∀ k, k < prt (nN (mn q)) (rgK (kd q).toInt) → wyF2 (X 0).toInt (Y 0).toInt (P 0).toInt (Q 0).toInt (nN (mn q)) (cF40 cx q) (cF40 cy q) k))))
/-- lawful: a row becomes its box -/
def alB : Prop := pls nd P Q ∧ sndK nd P Q rd 6 ∧ ∀ q, q < ft → (q ≠ f0 → lvF ft st tn q → (apMv mn cx cy n X Y nd P Q q ∨ asQ kd mn cx cy n X Y rg nd P Q rd q))
end
theorem swR_p {n : Nat} {X Y P Q : Nat → Int32} {x y : Int} {i : Nat} : swR n X Y P Q x y i ↔ swp n X Y P Q x y i := by
  unfold swR swp; rw [wtR_iff, wtR_iff]
theorem law_mv {kf kg : Int} {n m : Nat} {X Y P Q U V : Nat → Int32} {x0 y0 : Int32} (h0 : ¬ kf = 0) (h1 : okK kf n) (h3 : okK kg m) :
    (asb n X Y (rgK kf) n P Q (rgK kf) m U V (rgK kg) ∧ ¬ ∃ i, i < edg n (rgK kf) ∧ ∃ k, k < m ∧ swR n X Y P Q (U k).toInt (V k).toInt i) ↔ lawTo x0 y0 kf n P Q kg m U V (mtF kf n X Y kg m U V) (inF kg m U V (X 0).toInt (Y 0).toInt) (fun j => inF kf n X Y (U j).toInt (V j).toInt) (fun k => ∃ e, e < eO kf n ∧ swp n X Y P Q (U k).toInt (V k).toInt e) := by
  have e : edg n (rgK kf) = eO kf n := edg_eO (rgK_t kf) h0 (by unfold okK at h1; omega)
  rw [asb_law h1 h1 h3 Iff.rfl, e]
  unfold lawTo
  constructor
  · rintro ⟨⟨a, b, c⟩, d⟩
    exact ⟨a, b, fun j hj => ⟨c j hj, fun _ ⟨i, hi, g⟩ => d ⟨i, hi, j, hj, swR_p.mpr g⟩⟩, fun g => absurd g h0⟩
  · rintro ⟨a, b, c, _⟩
    exact ⟨⟨a, b, fun j hj => (c j hj).1⟩, fun ⟨i, hi, j, hj, g⟩ => (c j hj).2 h0 ⟨i, hi, swR_p.mp g⟩⟩
theorem law_wy {kg : Int} {m : Nat} {X Y P Q U V : Nat → Int32} {sw : Nat → Prop} (h3 : okK kg m) :
    (asb 1 X Y (rgK 0) 1 P Q (rgK 0) m U V (rgK kg) ∧ ∀ k, k < prt m (rgK kg) → wyF2 (X 0).toInt (Y 0).toInt (P 0).toInt (Q 0).toInt m U V k) ↔ lawTo (X 0) (Y 0) 0 1 P Q kg m U V (mtF 0 1 X Y kg m U V) (inF kg m U V (X 0).toInt (Y 0).toInt) (fun j => inF 0 1 X Y (U j).toInt (V j).toInt) sw := by
  have o1 : okK 0 1 := Or.inl ⟨rfl, rfl⟩
  rw [asb_law o1 o1 h3 Iff.rfl, prt_eO (rgK_t kg) h3]
  unfold lawTo
  constructor
  · rintro ⟨⟨a, b, c⟩, d⟩
    exact ⟨a, b, fun j hj => ⟨c j hj, fun g => absurd rfl g⟩, fun _ k hk => wy_fWy.mp (d k hk)⟩
  · rintro ⟨a, b, c, d⟩
    exact ⟨⟨a, b, fun j hj => (c j hj).1⟩, fun k hk => wy_fWy.mpr (d rfl k hk)⟩
theorem law_bx {kg : Int} {n m : Nat} {X Y P Q U V : Nat → Int32} {x0 y0 : Int32} (h1 : okK 5 n) (h3 : okK kg m) :
    asb n X Y (rgK 5) 4 P Q (rgK 6) m U V (rgK kg) ↔ lawTo x0 y0 6 4 P Q kg m U V (mtF 5 n X Y kg m U V) (inF kg m U V (X 0).toInt (Y 0).toInt) (fun j => inF 5 n X Y (U j).toInt (V j).toInt) (fun _ => False) := by
  have o2 : okK 6 4 := Or.inr ⟨by decide, by decide⟩
  rw [asb_law h1 o2 h3 ⟨fun _ => by decide, fun _ => by decide⟩]
  unfold lawTo
  constructor
  · rintro ⟨a, b, c⟩
    exact ⟨a, b, fun j hj => ⟨c j hj, fun _ g => g⟩, fun g => absurd g (by decide)⟩
  · rintro ⟨a, b, c, _⟩
    exact ⟨a, b, fun j hj => (c j hj).1⟩
theorem fgX_f {f n : Nat} {V c : Nat → Int32} : ∀ j, j < n → cF40 (fgX f n V c) f j = V j := by
  intro j hj
  show fgX f n V c (40 * f + j) = V j
  unfold fgX; rw [if_pos (by omega), show 40 * f + j - 40 * f = j by omega]
theorem fgX_q {f n q : Nat} {V c : Nat → Int32} (hq : q ≠ f) (hn : n ≤ 40) : ∀ j, j < 40 → cF40 (fgX f n V c) q j = cF40 c q j := by
  intro j hj
  show fgX f n V c (40 * q + j) = c (40 * q + j)
  unfold fgX; rw [if_neg (by omega)]
section
variable {ft : Nat} {st tn kd mn cx cy : Nat → Int32} {f n : Nat} {P Q VX VY : Nat → Int32}
theorem alM_lw (hn : n ≤ 40) (h0 : ¬ (kd f).toInt = 0) (hmc : mnc (kd f).toInt ≤ n) (hv : ∀ j, j < n → P j = VX j ∧ Q j = VY j) (hwf : ∀ q, lvF ft st tn q → wfM mn cx cy q) (hkn : okN ft st tn kd mn) :
    alM ft st tn kd mn cx cy f n (cF40 cx f) (cF40 cy f) (rgK (kd f).toInt) n P Q (rgK (kd f).toInt) (kd f) ↔ lwM ft st tn kd mn cx cy f n VX VY := by
  have h2 : 2 ≤ n := by unfold mnc at hmc; split at hmc <;> omega
  have o1 : okK (kd f).toInt n := Or.inr ⟨h0, h2⟩
  have c1 : ∀ j, j < n → cF40 (fgX f n VX cx) f j = P j ∧ cF40 (fgX f n VY cy) f j = Q j := fun j hj => by rw [fgX_f j hj, fgX_f j hj, (hv j hj).1, (hv j hj).2]; exact ⟨rfl, rfl⟩
  unfold alM lwM lwA
  rw [pls_cg c1]
  refine and_congr_right fun _ => and_congr ?_ ?_
  · exact (snd_iff (rgK_t _) h0 hmc).trans ⟨mSm_cg fun j hj => ⟨(c1 j hj).1.symm, (c1 j hj).2.symm⟩, mSm_cg c1⟩
  · have one : ∀ q, lvF ft st tn q → q ≠ f → ((apMv mn cx cy n (cF40 cx f) (cF40 cy f) n P Q q ∨ (asQ kd mn cx cy n (cF40 cx f) (cF40 cy f) (rgK (kd f).toInt) n P Q (rgK (kd f).toInt) q ∧ (¬ ∃ i, i < edg n (rgK (kd f).toInt) ∧ ∃ k, k < nN (mn q) ∧ swR n (cF40 cx f) (cF40 cy f) P Q (cF40 cx q k).toInt (cF40 cy q k).toInt i))) ↔
        lawTo (cF40 cx f 0) (cF40 cy f 0) (kd f).toInt n (cF40 (fgX f n VX cx) f) (cF40 (fgX f n VY cy) f) (kd q).toInt (nN (mn q)) (cF40 (fgX f n VX cx) q) (cF40 (fgX f n VY cy) q) (bMt kd mn cx cy f n q) (bWi kd mn cx cy f q) (bIn kd cx cy f n q) (sWm (kd f).toInt n (cF40 cx f) (cF40 cy f) (fgX f n VX cx) (fgX f n VY cy) f q)) := by
      intro q hq hqf
      have w := hwf q hq
      have c2 : ∀ j, j < nN (mn q) → cF40 (fgX f n VX cx) q j = cF40 cx q j ∧ cF40 (fgX f n VY cy) q j = cF40 cy q j := fun j hj => ⟨fgX_q hqf hn j (by have := w.2.1; omega), fgX_q hqf hn j (by have := w.2.1; omega)⟩
      have le := eO_le (k := (kd f).toInt) (n := n) (by omega)
      have sw : ∀ k, k < nN (mn q) → (sWm (kd f).toInt n (cF40 cx f) (cF40 cy f) (fgX f n VX cx) (fgX f n VY cy) f q k ↔ ∃ e, e < eO (kd f).toInt n ∧ swp n (cF40 cx f) (cF40 cy f) P Q (cF40 cx q k).toInt (cF40 cy q k).toInt e) := fun k hk => by
        refine exists_congr fun e => and_congr_right fun he => ?_
        have hx := nxt_lt (n := n) (i := e) (by omega)
        unfold swp spr stay
        rw [(c2 k hk).1, (c2 k hk).2, (c1 e (by omega)).1, (c1 e (by omega)).2, (c1 _ hx).1, (c1 _ hx).2]
      rw [lawTo_cg (A := P) (B := Q) (S := cF40 cx q) (T := cF40 cy q) (sv := fun k => ∃ e, e < eO (kd f).toInt n ∧ swp n (cF40 cx f) (cF40 cy f) P Q (cF40 cx q k).toInt (cF40 cy q k).toInt e) (by omega) w.2.1.1 c1 c2 sw]
      rw [← law_mv h0 o1 (hkn q hq)]
      have bx := mv_in (n := n) (nd := n) (X := cF40 cx f) (Y := cF40 cy f) (P := P) (Q := Q)
      exact ⟨fun g => g.elim (fun g => ⟨ap_asb (by omega) (by omega) w.2.1.1 bx.1 bx.2 g, ap_swM bx.1 bx.2 g⟩) id, Or.inr⟩
    exact ⟨fun h q hq hqf => (one q hq hqf).mp (h q hq.1 hqf hq), fun h q _ hqf hq => (one q hq hqf).mpr (h q hq hqf)⟩
theorem alW_lw (h0 : (kd f).toInt = 0) (hv : ∀ j, j < 1 → P j = VX j ∧ Q j = VY j) (hwf : ∀ q, lvF ft st tn q → wfM mn cx cy q) (hkn : okN ft st tn kd mn) :
    alW ft st tn kd mn cx cy f 1 (cF40 cx f) (cF40 cy f) (rgK (kd f).toInt) 1 P Q (rgK (kd f).toInt) (kd f) ↔ lwM ft st tn kd mn cx cy f 1 VX VY := by
  have c1 : ∀ j, j < 1 → cF40 (fgX f 1 VX cx) f j = P j ∧ cF40 (fgX f 1 VY cy) f j = Q j := fun j hj => by rw [fgX_f j hj, fgX_f j hj, (hv j hj).1, (hv j hj).2]; exact ⟨rfl, rfl⟩
  unfold alW lwM lwA
  rw [pls_cg c1, h0]
  refine and_congr_right fun _ => and_congr ?_ ?_
  · refine ⟨fun _ => ⟨fun _ => rfl, fun g => absurd rfl g⟩, fun _ => ⟨fun i hi => ?_, Or.inl (by omega)⟩⟩
    unfold edg at hi; rw [if_pos (by omega)] at hi; omega
  · have one : ∀ q, lvF ft st tn q → q ≠ f → ((apMv mn cx cy 1 (cF40 cx f) (cF40 cy f) 1 P Q q ∨ (asQ kd mn cx cy 1 (cF40 cx f) (cF40 cy f) (rgK 0) 1 P Q (rgK 0) q ∧ (∀ k, k < prt (nN (mn q)) (rgK (kd q).toInt) → wyF2 (cF40 cx f 0).toInt (cF40 cy f 0).toInt (P 0).toInt (Q 0).toInt (nN (mn q)) (cF40 cx q) (cF40 cy q) k))) ↔
        lawTo (cF40 cx f 0) (cF40 cy f 0) 0 1 (cF40 (fgX f 1 VX cx) f) (cF40 (fgX f 1 VY cy) f) (kd q).toInt (nN (mn q)) (cF40 (fgX f 1 VX cx) q) (cF40 (fgX f 1 VY cy) q) (mtF 0 1 (cF40 cx f) (cF40 cy f) (kd q).toInt (nN (mn q)) (cF40 cx q) (cF40 cy q)) (bWi kd mn cx cy f q) (fun k => inF 0 1 (cF40 cx f) (cF40 cy f) (cF40 cx q k).toInt (cF40 cy q k).toInt) (sWm 0 1 (cF40 cx f) (cF40 cy f) (fgX f 1 VX cx) (fgX f 1 VY cy) f q)) := by
      intro q hq hqf
      have w := hwf q hq
      have c2 : ∀ j, j < nN (mn q) → cF40 (fgX f 1 VX cx) q j = cF40 cx q j ∧ cF40 (fgX f 1 VY cy) q j = cF40 cy q j := fun j hj => ⟨fgX_q hqf (by omega) j (by have := w.2.1; omega), fgX_q hqf (by omega) j (by have := w.2.1; omega)⟩
      rw [lawTo_cg (A := P) (B := Q) (S := cF40 cx q) (T := cF40 cy q) (by omega) w.2.1.1 c1 c2 (fun _ _ => Iff.rfl)]
      rw [← law_wy (hkn q hq)]
      have bx := mv_in (n := 1) (nd := 1) (X := cF40 cx f) (Y := cF40 cy f) (P := P) (Q := Q)
      exact ⟨fun g => g.elim (fun g => ⟨ap_asb (by omega) (by omega) w.2.1.1 bx.1 bx.2 g, ap_wy (by omega) (by omega) bx.1 bx.2 g⟩) id, Or.inr⟩
    have hb : ∀ q, bMt kd mn cx cy f 1 q ↔ mtF 0 1 (cF40 cx f) (cF40 cy f) (kd q).toInt (nN (mn q)) (cF40 cx q) (cF40 cy q) := fun q => by show mtF (kd f).toInt 1 _ _ _ _ _ _ ↔ _; rw [h0]
    constructor
    · intro h q hq hqf
      have := (one q hq hqf).mp (h q hq.1 hqf hq)
      rw [← h0] at this ⊢; exact this
    · intro h q _ hqf hq
      refine (one q hq hqf).mpr ?_
      have := h q hq hqf
      rw [← h0] at this ⊢; exact this
end
end
section
/-! the class's law is the reference's: a row becomes its box; two rows become one -/
theorem bx_f {f : Nat} {a b c d : Int32} {cx cy P Q : Nat → Int32} (h0 : P 0 = a ∧ Q 0 = c) (h1 : P 1 = b ∧ Q 1 = c) (h2 : P 2 = b ∧ Q 2 = d) (h3 : P 3 = a ∧ Q 3 = d) : ∀ j, j < 4 → cF40 (bxX f a b 4 cx) f j = P j ∧ cF40 (bxY f c d 4 cy) f j = Q j := by
  intro j hj
  have e1 : cF40 (bxX f a b 4 cx) f j = if j = 1 ∨ j = 2 then b else a := by
    show bxX f a b 4 cx (40 * f + j) = _
    unfold bxX
    rw [if_pos (by omega)]
    by_cases q : j = 1 ∨ j = 2
    · rw [if_pos q, if_pos (by omega)]
    · rw [if_neg q, if_neg (by omega)]
  have e2 : cF40 (bxY f c d 4 cy) f j = if 1 < j then d else c := by
    show bxY f c d 4 cy (40 * f + j) = _
    unfold bxY
    rw [if_pos (by omega)]
    by_cases q : 1 < j
    · rw [if_pos q, if_pos (by omega)]
    · rw [if_neg q, if_neg (by omega)]
  rw [e1, e2]
  rcases (show j = 0 ∨ j = 1 ∨ j = 2 ∨ j = 3 by omega) with rfl | rfl | rfl | rfl
  · exact ⟨h0.1.symm, h0.2.symm⟩
  · exact ⟨h1.1.symm, h1.2.symm⟩
  · exact ⟨h2.1.symm, h2.2.symm⟩
  · exact ⟨h3.1.symm, h3.2.symm⟩
section
variable {ft : Nat} {st tn kd mn cx cy : Nat → Int32} {f n : Nat} {P Q : Nat → Int32}
theorem alB_lw (hn : 3 ≤ n ∧ n ≤ 40) (h5 : (kd f).toInt = 5) (h0 : P 0 = iI (bL (cF40 cx f) n) ∧ Q 0 = iI (bL (cF40 cy f) n)) (h1 : P 1 = iI (bH (cF40 cx f) n) ∧ Q 1 = iI (bL (cF40 cy f) n)) (h2 : P 2 = iI (bH (cF40 cx f) n) ∧ Q 2 = iI (bH (cF40 cy f) n)) (h3 : P 3 = iI (bL (cF40 cx f) n) ∧ Q 3 = iI (bH (cF40 cy f) n)) (hwf : ∀ q, lvF ft st tn q → wfM mn cx cy q) (hkn : okN ft st tn kd mn) :
    alB ft st tn kd mn cx cy f n (cF40 cx f) (cF40 cy f) (rgK 5) 4 P Q (rgK 6) ↔ lwS ft st tn kd mn cx cy f n := by
  have c1 := bx_f (f := f) (cx := cx) (cy := cy) h0 h1 h2 h3
  have u6 : ((upd kd f 6) f).toInt = 6 := by rw [up_at]; decide
  unfold alB lwS lwA
  rw [pls_cg c1, u6]
  refine and_congr_right fun _ => and_congr ?_ ?_
  · have s := snd_iff (kd := 6) (n := 4) (X := P) (Y := Q) (rg := rgK 6) (rgK_t _) (by decide) (by decide)
    have e6 : (6 : Int32).toInt = 6 := by decide
    show ((∀ i, i < edg 4 (rgK 6) → eFr 4 P Q (rgK 6) i (i + 1)) ∧ (¬ (6 : Int32).toInt = 6 ∨ ∀ k, k < 4 → eRt 4 P Q k)) ↔ _
    rw [e6, s]
    exact ⟨mSm_cg fun j hj => ⟨(c1 j hj).1.symm, (c1 j hj).2.symm⟩, mSm_cg c1⟩
  · have one : ∀ q, lvF ft st tn q → q ≠ f → ((apMv mn cx cy n (cF40 cx f) (cF40 cy f) 4 P Q q ∨ asQ kd mn cx cy n (cF40 cx f) (cF40 cy f) (rgK 5) 4 P Q (rgK 6) q) ↔
        lawTo (cF40 cx f 0) (cF40 cy f 0) 6 4 (cF40 (bxX f (iI (bL (cF40 cx f) n)) (iI (bH (cF40 cx f) n)) 4 cx) f) (cF40 (bxY f (iI (bL (cF40 cy f) n)) (iI (bH (cF40 cy f) n)) 4 cy) f) ((upd kd f 6) q).toInt (nN ((upd mn f 4) q)) (cF40 (bxX f (iI (bL (cF40 cx f) n)) (iI (bH (cF40 cx f) n)) 4 cx) q) (cF40 (bxY f (iI (bL (cF40 cy f) n)) (iI (bH (cF40 cy f) n)) 4 cy) q) (bMt kd mn cx cy f n q) (bWi kd mn cx cy f q) (bIn kd cx cy f n q) (sW0 q)) := by
      intro q hq hqf
      have w := hwf q hq
      have c2 : ∀ j, j < nN (mn q) → cF40 (bxX f (iI (bL (cF40 cx f) n)) (iI (bH (cF40 cx f) n)) 4 cx) q j = cF40 cx q j ∧ cF40 (bxY f (iI (bL (cF40 cy f) n)) (iI (bH (cF40 cy f) n)) 4 cy) q j = cF40 cy q j := fun j hj => by
        have := w.2.1
        exact ⟨bxX_o (by omega), bxY_o (by omega)⟩
      rw [show (upd kd f 6) q = kd q from if_neg hqf, show (upd mn f 4) q = mn q from if_neg hqf]
      rw [lawTo_cg (A := P) (B := Q) (S := cF40 cx q) (T := cF40 cy q) (sv := fun _ => False) (by omega) w.2.1.1 c1 c2 (fun _ _ => Iff.rfl)]
      have hb : bMt kd mn cx cy f n q ↔ mtF 5 n (cF40 cx f) (cF40 cy f) (kd q).toInt (nN (mn q)) (cF40 cx q) (cF40 cy q) := by show mtF (kd f).toInt n _ _ _ _ _ _ ↔ _; rw [h5]
      have hi : bIn kd cx cy f n q = fun k => inF 5 n (cF40 cx f) (cF40 cy f) (cF40 cx q k).toInt (cF40 cy q k).toInt := by funext k; show inF (kd f).toInt n _ _ _ _ = _; rw [h5]
      rw [hi, propext hb, ← law_bx (Or.inr ⟨by decide, by omega⟩) (hkn q hq)]
      have bx := mv_in (n := n) (nd := 4) (X := cF40 cx f) (Y := cF40 cy f) (P := P) (Q := Q)
      exact ⟨fun g => g.elim (fun g => ap_asb (by omega) (by omega) w.2.1.1 bx.1 bx.2 g) id, Or.inr⟩
    exact ⟨fun h q hq hqf => (one q hq hqf).mp (h q hq.1 hqf hq), fun h q _ hqf hq => (one q hq hqf).mpr (h q hq hqf)⟩
end
/-- nobody but two is met by the box of a JOIN, or begins inside it -/
theorem free_iff {ft : Nat} {st tn kd mn cx cy : Nat → Int32} {f g : Nat} {a b c d : Int32} {P Q : Nat → Int32} (h200 : ft ≤ 200) (h0 : P 0 = a ∧ Q 0 = c) (h1 : P 1 = b ∧ Q 1 = c) (h2 : P 2 = b ∧ Q 2 = d) (h3 : P 3 = a ∧ Q 3 = d) (hwf : ∀ q, lvF ft st tn q → wfM mn cx cy q) (hkn : okN ft st tn kd mn) :
    (∀ q, q < ft → (q ≠ f → q ≠ g → lvF ft st tn q → ¬ tch 4 P Q (rgK 6) (nN (mn q)) (cF40 cx q) (cF40 cy q) (rgK (kd q).toInt) ∧ ¬ inF 5 4 P Q (cF40 cx q 0).toInt (cF40 cy q 0).toInt)) ↔ jFr ft st tn (upd kd 200 6) (upd mn 200 4) (bxX 200 a b 4 cx) (bxY 200 c d 4 cy) f g ft := by
  have c1 := bx_f (f := 200) (cx := cx) (cy := cy) h0 h1 h2 h3
  have u6 : ((upd kd 200 6) 200).toInt = 6 := by rw [up_at]; decide
  have o2 : okK 6 4 := Or.inr ⟨by decide, by decide⟩
  unfold jFr
  rw [u6]
  refine forall_congr' fun q => imp_congr_right fun hq => imp_congr_right fun _ => imp_congr_right fun _ => imp_congr_right fun hl => ?_
  have w := hwf q hl
  have hq2 : q ≠ 200 := by omega
  have c2 : ∀ j, j < nN (mn q) → cF40 (bxX 200 a b 4 cx) q j = cF40 cx q j ∧ cF40 (bxY 200 c d 4 cy) q j = cF40 cy q j := fun j hj => by
    have := w.2.1
    exact ⟨bxX_o (by omega), bxY_o (by omega)⟩
  have z := c2 0 w.2.1.1
  have z1 : bxX 200 a b 4 cx (40 * q) = cF40 cx q 0 := z.1
  have z2 : bxY 200 c d 4 cy (40 * q) = cF40 cy q 0 := z.2
  rw [show (upd kd 200 6) q = kd q from if_neg hq2, show (upd mn 200 4) q = mn q from if_neg hq2, tch_mt o2 (hkn q hl), mtF_cg (by omega) w.2.1.1 c1 c2, z1, z2, inF_cg (by omega) c1, inF_5 (k := 6) (by decide)]
end
section
/-! PLAINER of one feature, by the class -/
section
variable {ft : Nat} {st tn kd mn cx cy : Nat → Int32} {f0 n : Nat} {X Y A B : Nat → Int32} {rg lim : Int32}
theorem ctF_cg (h : ∀ j, j < n → X j = A j ∧ Y j = B j) {k : Nat} : ∀ j, j < n - 1 → ctF X k j = ctF A k j ∧ ctF Y k j = ctF B k j := by
  intro j hj
  unfold ctF
  by_cases q : j < k
  · rw [if_pos q, if_pos q, if_pos q, if_pos q]; exact h j (by omega)
  · rw [if_neg q, if_neg q, if_neg q, if_neg q]; exact h (j + 1) (by omega)
theorem swC_cg (h : ∀ j, j < n → X j = A j ∧ Y j = B j) {k : Nat} (hk : k < n) {x y : Int} : swC n X Y k x y = swC n A B k x y := by
  have h1 := h _ (prv_lt (n := n) (i := k) hk); have h2 := h _ (nxt_lt (n := n) (i := k) (by omega)); have h3 := h k hk
  unfold swC; rw [h1.1, h1.2, h2.1, h2.2, h3.1, h3.2]
theorem asb_cx (hn : 1 ≤ n) (h : ∀ j, j < n → X j = A j ∧ Y j = B j) {nd m : Nat} {P Q U V : Nat → Int32} {rd rh : Int32} : asb n X Y rg nd P Q rd m U V rh ↔ asb n A B rg nd P Q rd m U V rh := by
  unfold asb
  rw [tch_cl h, (h 0 (by omega)).1, (h 0 (by omega)).2]
  exact and_congr_right fun _ => and_congr (imp_congr_right fun _ => forall_congr' fun k => imp_congr_right fun _ => by rw [inF_cg hn h]) Iff.rfl
theorem alC_cx (hn : 2 ≤ n) (h : ∀ j, j < n → X j = A j ∧ Y j = B j) {k : Nat} (hk : k < n) : alC ft st tn kd mn cx cy f0 n X Y rg (n - 1) (ctF X k) (ctF Y k) rg k ↔ alC ft st tn kd mn cx cy f0 n A B rg (n - 1) (ctF A k) (ctF B k) rg k := by
  rw [alC_cg (by omega) (ctF_cg h)]
  have h1 := h _ (prv_lt (n := n) (i := k) hk); have h2 := h _ (nxt_lt (n := n) (i := k) (by omega)); have h3 := h k hk
  unfold alC
  rw [h1.1, h1.2, h2.1, h2.2, h3.1, h3.2]
  refine and_congr_right fun _ => and_congr_right fun _ => forall_congr' fun q => imp_congr_right fun _ => imp_congr_right fun _ => imp_congr_right fun _ => or_congr Iff.rfl (and_congr (asb_cx (by omega) h) (not_congr (exists_congr fun j => by rw [swC_cg h hk])))
theorem arT_cg (h : ∀ j, j < n → X j = A j ∧ Y j = B j) {k : Nat} (hk : k < n) : arT n X Y k = arT n A B k := by
  have hv := prv_lt (n := n) (i := k) hk
  have h1 := h _ hv; have h2 := h _ (nxt_lt (n := n) (i := k) (by omega)); have h3 := h _ (nxt_lt (n := n) (i := prv n k) (by omega))
  unfold arT eCr; rw [h1.1, h1.2, h2.1, h2.2, h3.1, h3.2]
theorem goK_cg (hn : 2 ≤ n) (h : ∀ j, j < n → X j = A j ∧ Y j = B j) {k : Nat} (hk : k < n) : goK ft st tn kd mn cx cy f0 n X Y rg lim k ↔ goK ft st tn kd mn cx cy f0 n A B rg lim k := by
  unfold goK
  rw [arT_cg h hk, (h k hk).1, (h k hk).2, alC_cx hn h hk]
end
/-- what holds of a feature while its corners go one by one -/
def thI (ft : Nat) (st tn kd : Nat → Int32) (f : Nat) (mn cx cy : Nat → Int32) (n : Nat) : Prop :=
  plI ft st tn kd f mn cx cy n ∧ mSm (kd f).toInt n (cF40 cx f) (cF40 cy f) ∧ okN ft st tn kd mn ∧ (1 ≤ (kd f).toInt ∧ (kd f).toInt ≤ 5) ∧ 2 ≤ n ∧ (5 ≤ (kd f).toInt → 3 ≤ n) ∧ lvF ft st tn f
/-- the corner that the class lets go is the reference's -/
theorem thB {ft : Nat} {st tn kd mn cx cy : Nat → Int32} {f n L : Nat} {X Y : Nat → Int32} {lim zb : Int32} (hI : thI ft st tn kd f mn cx cy n) (hn : n ≤ 40) (hL : lim.toInt = ((L : Nat) : Int)) (hX : ∀ j, j < n → X j = cF40 cx f j ∧ Y j = cF40 cy f j) (hr : ¬ 5 ≤ (kd f).toInt ∨ 4 ≤ n) (hwf : ∀ q, lvF ft st tn q → wfM mn cx cy q)
    (hb : bstS (arT n X Y) (fun k => ¬ goK ft st tn kd mn cx cy f n X Y (rgK (kd f).toInt) lim k) n zb) : (zb.toInt = -1 ∧ ¬ ∃ k, pBest ft st tn kd mn cx cy f n L k) ∨ ∃ k, zb = nI k ∧ pBest ft st tn kd mn cx cy f n L k := by
  obtain ⟨_, hs, hk, hkd, h2, _, _⟩ := hI
  have go : ∀ k, k < n → (goK ft st tn kd mn cx cy f n X Y (rgK (kd f).toInt) lim k ↔ (cnd ft st tn kd mn cx cy f n L k ∧ lwP ft st tn kd mn cx cy f n k)) := fun k hkn => (goK_cg h2 hX hkn).trans (go_iff hL hkn hn hkd hr h2 hs hwf hk)
  have et : ∀ k, k < n → arT n X Y k = trF cx cy f n k := fun k hkn => by
    rw [arT_cg hX hkn]
    have nxp : nxt n (prv n k) = k := by unfold nxt prv; (repeat' split) <;> omega
    unfold arT eCr; rw [nxp]
  rcases hb with ⟨hz, hall⟩ | ⟨b, hz, hb, hF, hm⟩
  · refine Or.inl ⟨by rw [hz]; decide, fun ⟨k, hk1, hk2, hk3, _⟩ => ?_⟩
    exact hall k hk1 ((go k hk1).mpr ⟨hk2, hk3⟩)
  · have g := (go b hb).mp (Classical.not_not.mp hF)
    refine Or.inr ⟨b, hz, hb, g.1, g.2, fun j hj h1 h2 => ?_⟩
    have := hm j hj (fun q => q ((go j hj).mpr ⟨h1, h2⟩))
    rw [et b hb, et j hj] at this; exact this
/-- a feature that others have not touched is as it was -/
theorem vwO_cg {cI : ClassId} {L : List Nat} {f : Nat → va_E} {FA : Nat → Option Nat} {kd st tn mn cx cy mn1 cx1 cy1 : Nat → Int32} {q : Nat} (hm : mn1 q = mn q) (hc : ∀ j, j < 40 → cF40 cx1 q j = cF40 cx q j ∧ cF40 cy1 q j = cF40 cy q j) (h : vwO cI L f FA kd st tn mn cx cy q) : vwO cI L f FA kd st tn mn1 cx1 cy1 q := by
  refine ⟨h.1, h.2.1, fun g => ?_⟩
  obtain ⟨fe, lk, lo, rk, wd, tw, pa, pb, gb, jt, we, fm, r, rx, ry, cap, X, Y, rg, h1, h2, h3, h4, h5⟩ := h.2.2 g
  refine ⟨fe, lk, lo, rk, wd, tw, pa, pb, gb, jt, we, fm, r, rx, ry, cap, X, Y, rg, h1, h2, h3, by rw [hm]; exact h4, ?_⟩
  obtain ⟨a, b, c, d, e⟩ := h5
  unfold rwR
  rw [hm]
  exact ⟨a, b, c, d, fun k hk => by rw [(hc k (by omega)).1, (hc k (by omega)).2]; exact e k hk⟩
end
section
/-! the corners of one feature go one by one -/
theorem rgK_01 (k : Int) : rgK k = 0 ∨ rgK k = 1 := by unfold rgK; split <;> simp
theorem th_r {ft : Nat} {st tn kd : Nat → Int32} {f : Nat} {mn cx cy : Nat → Int32} {n : Nat} (h : thI ft st tn kd f mn cx cy n) : ((¬ (rgK (kd f).toInt).toInt = 0 ∧ n ≤ 3) ∧ ∀ L, ¬ ∃ k, pBest ft st tn kd mn cx cy f n L k) ∨ (((rgK (kd f).toInt).toInt = 0 ∨ 4 ≤ n) ∧ (¬ 5 ≤ (kd f).toInt ∨ 4 ≤ n)) := by
  rw [rgK_0]
  by_cases e : 5 ≤ (kd f).toInt ∧ n ≤ 3
  · refine Or.inl ⟨by omega, fun L ⟨k, hk⟩ => ?_⟩
    have := hk.2.1.1.1; have := h.2.2.2.2.2.1 e.1; omega
  · exact Or.inr (by omega)
theorem nN_n9 {n : Nat} (h : n ≤ 1000) : nN (nI n) = n := by unfold nN; rw [nI_toInt (by omega)]; omega
theorem thI_s {ft : Nat} {st tn kd : Nat → Int32} {f L : Nat} {mn cx cy : Nat → Int32} {n k : Nat} (h : thI ft st tn kd f mn cx cy n) (hb : pBest ft st tn kd mn cx cy f n L k) : thI ft st tn kd f (upd mn f (nI (n - 1))) (shp f k (n - 1) cx) (shp f k (n - 1) cy) (n - 1) := by
  obtain ⟨hp, hs, hk, hkd, h2, h3, hl⟩ := h
  obtain ⟨b1, b2, b3, b4⟩ := hb
  have hg := b2.1.1
  have n40 := hp.2.1
  have hq : ∀ q, lvF ft st tn q → q ≠ f → wfM (upd mn f (nI (n - 1))) (shp f k (n - 1) cx) (shp f k (n - 1) cy) q := fun q hq hqf => by
    have w := hp.2.2.2.1 q hq
    unfold wfM at w ⊢
    rw [show upd mn f (nI (n - 1)) q = mn q from if_neg hqf]
    refine ⟨w.1, w.2.1, fun j hj => ?_⟩
    rw [shp_ot hqf n40.2 j (by have := w.2.1; omega), shp_ot hqf n40.2 j (by have := w.2.1; omega)]; exact w.2.2 j hj
  have hf : wfM (upd mn f (nI (n - 1))) (shp f k (n - 1) cx) (shp f k (n - 1) cy) f := by
    unfold wfM
    rw [up_at, nN_n9 (by omega)]
    exact ⟨rfl, by omega, b3.1⟩
  refine ⟨⟨up_at _ _ _, by omega, b3.1, fun q hq9 => ?_, fun g => by omega⟩, b3.2.1, fun q hq9 => ?_, hkd, by omega, fun g => by have := h3 g; omega, hl⟩
  · by_cases e : q = f
    · rw [e]; exact hf
    · exact hq q hq9 e
  · by_cases e : q = f
    · rw [e, up_at, nN_n9 (by omega)]; exact Or.inr ⟨by omega, by omega⟩
    · rw [show upd mn f (nI (n - 1)) q = mn q from if_neg e]; exact hk q hq9
/-- others stay as they are while corners of one feature go -/
def othE (f : Nat) (mn cx cy mn1 cx1 cy1 : Nat → Int32) : Prop := (∀ q, q ≠ f → mn1 q = mn q) ∧ ∀ q, q ≠ f → ∀ j, j < 40 → cF40 cx1 q j = cF40 cx q j ∧ cF40 cy1 q j = cF40 cy q j
theorem othE_0 (f : Nat) (mn cx cy : Nat → Int32) : othE f mn cx cy mn cx cy := ⟨fun _ _ => rfl, fun _ _ _ _ => ⟨rfl, rfl⟩⟩
theorem othE_s {f k n : Nat} {mn cx cy mn1 cx1 cy1 : Nat → Int32} {x : Int32} (h : othE f mn cx cy mn1 cx1 cy1) (hn : n ≤ 40) : othE f mn cx cy (upd mn1 f x) (shp f k (n - 1) cx1) (shp f k (n - 1) cy1) :=
  ⟨fun q hq => by rw [show upd mn1 f x q = mn1 q from if_neg hq]; exact h.1 q hq, fun q hq j hj => by rw [shp_ot hq hn j hj, shp_ot hq hn j hj]; exact h.2 q hq j hj⟩
theorem cut_row {f k n : Nat} {cx cy X Y X1 Y1 : Nat → Int32} (hX : ∀ j, j < n → X j = cF40 cx f j ∧ Y j = cF40 cy f j) (h1 : ∀ j, j < k → X1 j = X j ∧ Y1 j = Y j) (h2 : ∀ j, k ≤ j → j < n - 1 → X1 j = X (j + 1) ∧ Y1 j = Y (j + 1)) (hk : k < n) : ∀ j, j < n - 1 → X1 j = cF40 (shp f k (n - 1) cx) f j ∧ Y1 j = cF40 (shp f k (n - 1) cy) f j := by
  intro j hj
  have c := ct_cg hX h1 h2 hk j hj
  rw [shp_ct j hj, shp_ct j hj]; exact c
theorem pl_go {ft : Nat} {st tn kd : Nat → Int32} {f L m : Nat} {mn cx cy mn1 cx1 cy1 : Nat → Int32} {n n1 k : Nat} (h : plN ft st tn kd f L m mn cx cy n mn1 cx1 cy1 n1) (hk : pBest ft st tn kd mn cx cy f n L k) : ∃ r, m = r + 1 ∧ plN ft st tn kd f L r (upd mn f (nI (n - 1))) (shp f k (n - 1) cx) (shp f k (n - 1) cy) (n - 1) mn1 cx1 cy1 n1 := by
  rcases Nat.eq_zero_or_pos m with e | e
  · exact absurd ⟨k, hk⟩ (plN_z e h).2.2.2.2
  · obtain ⟨r, k2, e1, h1, h2⟩ := plN_p e h
    rw [pBest_u hk h1]; exact ⟨r, e1, h2⟩
theorem pl_no {ft : Nat} {st tn kd : Nat → Int32} {f L m : Nat} {mn cx cy mn1 cx1 cy1 : Nat → Int32} {n n1 : Nat} (h : plN ft st tn kd f L m mn cx cy n mn1 cx1 cy1 n1) (hk : ¬ ∃ k, pBest ft st tn kd mn cx cy f n L k) : m = 0 ∧ mn1 = mn ∧ cx1 = cx ∧ cy1 = cy ∧ n1 = n := by
  rcases Nat.eq_zero_or_pos m with e | e
  · have z := plN_z e h; exact ⟨e, z.1, z.2.1, z.2.2.1, z.2.2.2.1⟩
  · obtain ⟨r, k2, e1, h1, h2⟩ := plN_p e h
    exact absurd ⟨k2, h1⟩ hk
end
section
set_option maxHeartbeats 4000000 in
set_option maxRecDepth 100000 in
theorem k_thin_f (l : Launch) (dC : Nat → ClassId) (dI : Nat → Nat → Nat) (cI cZ cF : ClassId) (sz : Nat) (x : Nat) (ro : Nat) (bq : Nat) (bp : Nat) (dq : Nat) (dp : Nat) (lv : Nat) (sl : Nat) (ds : Int32) (sd : Int32) (ul : Int32) (su : Int32) (lw : Nat) (dr : Nat) (tg : Nat) (wy : Nat) (br : Nat) (bo : Nat) (aa : Nat) (tx : Nat) (ty : Nat) (nt : Nat) (TX : Nat → Int32) (TY : Nat → Int32) (rt : Int32) (wx : Nat) (wz : Nat) (nw : Nat) (WX : Nat → Int32) (WY : Nat → Int32) (rw : Int32) (dx : Nat) (dy : Nat) (nd : Nat) (cd : Nat) (P : Nat → Int32) (Q : Nat → Int32) (rd : Int32) (b1 : Int32) (b2 : Int32) (b3 : Int32) (b4 : Int32) (b5 : Int32) (b6 : Int32) (b7 : Int32) (b8 : Int32) (AR : Nat → Int32) (sh : Nat) (fa : Nat) (ft : Nat) (FA : Nat → Option Nat) (fe : Nat) (lo : Nat) (rk9 : Int32) (wd9 : Int32) (tw9 : Int32) (pa9 : Int32) (pb9 : Int32) (lk : Nat) (gb9 : Int32) (jt9 : Int32) (r : Nat) (rx : Nat) (ry : Nat) (n : Nat) (cap : Nat) (X : Nat → Int32) (Y : Nat → Int32) (ln9 : Nat) (cl9 : Nat) (lx : Nat) (ly : Nat) (LX : Nat → Int32) (LY : Nat → Int32) (f0 : Nat) (wn : Nat) (LM : Nat) (m9 : Nat) (n1 : Nat) (L : List Nat) (f : Nat → va_E) (kd : Nat → Int32) (st : Nat → Int32) (tn : Nat → Int32) (mn : Nat → Int32) (cx : Nat → Int32) (cy : Nat → Int32) (mn1 : Nat → Int32) (cx1 : Nat → Int32) (cy1 : Nat → Int32) (lim : Int32) (fm : Nat) (h200 : ft ≤ 200) (hf0 : f0 < ft) (hFA : FA f0 = some fe) (hvw : ∀ q, q < ft → q ≠ f0 → vwO cI L f FA kd st tn mn cx cy q) (hI : thI ft st tn kd f0 mn cx cy n) (hpl : plN ft st tn kd f0 LM m9 mn cx cy n mn1 cx1 cy1 n1) (hL : lim.toInt = ((LM : Nat) : Int)) (hX : ∀ j, j < n → X j = cF40 cx f0 j ∧ Y j = cF40 cy f0 j) (hn : n ≤ cap ∧ cap ≤ 40) (hcd : 40 ≤ cd ∧ cd ≤ 1000) (hwl : wn + n ≤ cl9 ∧ cl9 ≤ 1000) (hp : pls n X Y) (hln : ln9 ≤ cl9) : Met l yX10_thin (.code yX10_thin cX10_thin 6 (some .int) :: ws0) ({ frames := 6, cells := 0, slots := 0, locals := 157 } : Room) (va_Pc [.ref x, .ref fe, .int lim] (zPre (dC, dI) classes (zTy cI cZ cF) ([(oc8 x (.ref sh) (.ref lw) (.ref ro) (.ref bq) (.ref bp) (.ref dq) (.ref dp) (.ref lv) (.ref sl) ds sd ul su), (oc3 lw (.ref dr) (.ref tg) (.ref wy) (.ref br) (.ref bo) (.ref aa)), (oc6 tg (.ref tx) (.ref ty) (nI nt) rt), (oa tx cI 3 TX), (oa ty cI 3 TY), (oc6 wy (.ref wx) (.ref wz) (nI nw) rw), (oa wx cI 2 WX), (oa wz cI 2 WY), (oc6 dr (.ref dx) (.ref dy) (nI nd) rd), (oa dx cI cd P), (oa dy cI cd Q), (oc0 br b1 b2 b3 b4), (oc0 bo b5 b6 b7 b8), (oa aa cI 40 AR), (oc7 sh (.ref fa) (nI ft)), (oq fa cF 200 FA), (oc1 fe rk9 wd9 tw9 pa9 pb9 (.ref lo) (.ref lk) (.ref fm)), (oc4 lk (kd f0) (st f0) (.ref r) gb9 jt9 (nI wn)), (oc6 r (.ref rx) (.ref ry) (nI n) (rgK (kd f0).toInt)), (oa rx cI cap X), (oa ry cI cap Y), (oc6 lo (.ref lx) (.ref ly) (nI ln9) 0), (oa lx cI cl9 LX), (oa ly cI cl9 LY)] ++ va_pl L f) sz zXN)) (zQ (some (.int (nI m9))) (fun t => ∃ (nt1 : Nat), ∃ (TX1 : Nat → Int32), ∃ (TY1 : Nat → Int32), ∃ (rt1 : Int32), ∃ (nw1 : Nat), ∃ (WX1 : Nat → Int32), ∃ (WY1 : Nat → Int32), ∃ (rw1 : Int32), ∃ (nd1 : Nat), ∃ (P1 : Nat → Int32), ∃ (Q1 : Nat → Int32), ∃ (rd1 : Int32), ∃ (d5 : Int32), ∃ (d6 : Int32), ∃ (d7 : Int32), ∃ (d8 : Int32), ∃ (e5 : Int32), ∃ (e6 : Int32), ∃ (e7 : Int32), ∃ (e8 : Int32), ∃ (AR1 : Nat → Int32), ∃ (X2 : Nat → Int32), ∃ (Y2 : Nat → Int32), ∃ (LX2 : Nat → Int32), ∃ (LY2 : Nat → Int32), ∃ (lc2 : Nat), (∀ j, j < n1 → X2 j = cF40 cx1 f0 j ∧ Y2 j = cF40 cy1 f0 j) ∧ (lc2 ≤ cl9) ∧ va_P (dC, dI) classes ([(oc8 x (.ref sh) (.ref lw) (.ref ro) (.ref bq) (.ref bp) (.ref dq) (.ref dp) (.ref lv) (.ref sl) ds sd ul su), (oc3 lw (.ref dr) (.ref tg) (.ref wy) (.ref br) (.ref bo) (.ref aa)), (oc6 tg (.ref tx) (.ref ty) (nI nt1) rt1), (oa tx cI 3 TX1), (oa ty cI 3 TY1), (oc6 wy (.ref wx) (.ref wz) (nI nw1) rw1), (oa wx cI 2 WX1), (oa wz cI 2 WY1), (oc6 dr (.ref dx) (.ref dy) (nI nd1) rd1), (oa dx cI cd P1), (oa dy cI cd Q1), (oc0 br d5 d6 d7 d8), (oc0 bo e5 e6 e7 e8), (oa aa cI 40 AR1), (oc7 sh (.ref fa) (nI ft)), (oq fa cF 200 FA), (oc1 fe rk9 wd9 tw9 pa9 pb9 (.ref lo) (.ref lk) (.ref fm)), (oc4 lk (kd f0) (st f0) (.ref r) gb9 jt9 (nI (wn + m9))), (oc6 r (.ref rx) (.ref ry) (nI n1) (rgK (kd f0).toInt)), (oa rx cI cap X2), (oa ry cI cap Y2), (oc6 lo (.ref lx) (.ref ly) (nI lc2) 0), (oa lx cI cl9 LX2), (oa ly cI cl9 LY2)] ++ va_pl L f) t.heap ∧ va_D (va_A ([(oc8 x (.ref sh) (.ref lw) (.ref ro) (.ref bq) (.ref bp) (.ref dq) (.ref dp) (.ref lv) (.ref sl) ds sd ul su), (oc3 lw (.ref dr) (.ref tg) (.ref wy) (.ref br) (.ref bo) (.ref aa)), (oc6 tg (.ref tx) (.ref ty) (nI nt) rt), (oa tx cI 3 TX), (oa ty cI 3 TY), (oc6 wy (.ref wx) (.ref wz) (nI nw) rw), (oa wx cI 2 WX), (oa wz cI 2 WY), (oc6 dr (.ref dx) (.ref dy) (nI nd) rd), (oa dx cI cd P), (oa dy cI cd Q), (oc0 br b1 b2 b3 b4), (oc0 bo b5 b6 b7 b8), (oa aa cI 40 AR), (oc7 sh (.ref fa) (nI ft)), (oq fa cF 200 FA), (oc1 fe rk9 wd9 tw9 pa9 pb9 (.ref lo) (.ref lk) (.ref fm)), (oc4 lk (kd f0) (st f0) (.ref r) gb9 jt9 (nI wn)), (oc6 r (.ref rx) (.ref ry) (nI n) (rgK (kd f0).toInt)), (oa rx cI cap X), (oa ry cI cap Y), (oc6 lo (.ref lx) (.ref ly) (nI ln9) 0), (oa lx cI cl9 LX), (oa ly cI cl9 LY)] ++ va_pl L f) sz) ([(oc8 x (.ref sh) (.ref lw) (.ref ro) (.ref bq) (.ref bp) (.ref dq) (.ref dp) (.ref lv) (.ref sl) ds sd ul su), (oc3 lw (.ref dr) (.ref tg) (.ref wy) (.ref br) (.ref bo) (.ref aa)), (oc6 tg (.ref tx) (.ref ty) (nI nt1) rt1), (oa tx cI 3 TX1), (oa ty cI 3 TY1), (oc6 wy (.ref wx) (.ref wz) (nI nw1) rw1), (oa wx cI 2 WX1), (oa wz cI 2 WY1), (oc6 dr (.ref dx) (.ref dy) (nI nd1) rd1), (oa dx cI cd P1), (oa dy cI cd Q1), (oc0 br d5 d6 d7 d8), (oc0 bo e5 e6 e7 e8), (oa aa cI 40 AR1), (oc7 sh (.ref fa) (nI ft)), (oq fa cF 200 FA), (oc1 fe rk9 wd9 tw9 pa9 pb9 (.ref lo) (.ref lk) (.ref fm)), (oc4 lk (kd f0) (st f0) (.ref r) gb9 jt9 (nI (wn + m9))), (oc6 r (.ref rx) (.ref ry) (nI n1) (rgK (kd f0).toInt)), (oa rx cI cap X2), (oa ry cI cap Y2), (oc6 lo (.ref lx) (.ref ly) (nI lc2) 0), (oa lx cI cl9 LX2), (oa ly cI cl9 LY2)] ++ va_pl L f)) (va_A ([(oc8 x (.ref sh) (.ref lw) (.ref ro) (.ref bq) (.ref bp) (.ref dq) (.ref dp) (.ref lv) (.ref sl) ds sd ul su), (oc3 lw (.ref dr) (.ref tg) (.ref wy) (.ref br) (.ref bo) (.ref aa)), (oc6 tg (.ref tx) (.ref ty) (nI nt) rt), (oa tx cI 3 TX), (oa ty cI 3 TY), (oc6 wy (.ref wx) (.ref wz) (nI nw) rw), (oa wx cI 2 WX), (oa wz cI 2 WY), (oc6 dr (.ref dx) (.ref dy) (nI nd) rd), (oa dx cI cd P), (oa dy cI cd Q), (oc0 br b1 b2 b3 b4), (oc0 bo b5 b6 b7 b8), (oa aa cI 40 AR), (oc7 sh (.ref fa) (nI ft)), (oq fa cF 200 FA), (oc1 fe rk9 wd9 tw9 pa9 pb9 (.ref lo) (.ref lk) (.ref fm)), (oc4 lk (kd f0) (st f0) (.ref r) gb9 jt9 (nI wn)), (oc6 r (.ref rx) (.ref ry) (nI n) (rgK (kd f0).toInt)), (oa rx cI cap X), (oa ry cI cap Y), (oc6 lo (.ref lx) (.ref ly) (nI ln9) 0), (oa lx cI cl9 LX), (oa ly cI cl9 LY)] ++ va_pl L f) sz)) 0 0 (va_A ([(oc8 x (.ref sh) (.ref lw) (.ref ro) (.ref bq) (.ref bp) (.ref dq) (.ref dp) (.ref lv) (.ref sl) ds sd ul su), (oc3 lw (.ref dr) (.ref tg) (.ref wy) (.ref br) (.ref bo) (.ref aa)), (oc6 tg (.ref tx) (.ref ty) (nI nt) rt), (oa tx cI 3 TX), (oa ty cI 3 TY), (oc6 wy (.ref wx) (.ref wz) (nI nw) rw), (oa wx cI 2 WX), (oa wz cI 2 WY), (oc6 dr (.ref dx) (.ref dy) (nI nd) rd), (oa dx cI cd P), (oa dy cI cd Q), (oc0 br b1 b2 b3 b4), (oc0 bo b5 b6 b7 b8), (oa aa cI 40 AR), (oc7 sh (.ref fa) (nI ft)), (oq fa cF 200 FA), (oc1 fe rk9 wd9 tw9 pa9 pb9 (.ref lo) (.ref lk) (.ref fm)), (oc4 lk (kd f0) (st f0) (.ref r) gb9 jt9 (nI wn)), (oc6 r (.ref rx) (.ref ry) (nI n) (rgK (kd f0).toInt)), (oa rx cI cap X), (oa ry cI cap Y), (oc6 lo (.ref lx) (.ref ly) (nI ln9) 0), (oa lx cI cl9 LX), (oa ly cI cl9 LY)] ++ va_pl L f) sz) := by
  refine Met.ofW (cc := cX10_thin) (maxL := 6) (ret := (some .int)) rfl rfl ?_
  intro p e s m args below meth c s₁ B hml hv
  obtain ⟨rfl, hsz, hP, hK, hD0, hXN⟩ := hv
  have hx := B.exec
  have hb := B.bytes
  have hr := B.returns
  have hts0 := atoms_spec (ws := .code yX10_thin cX10_thin 6 (some .int) :: ws0) B.pre
  have hts : ∀ w9 ∈ ws0, w9.before ([.ref x, .ref fe, .int lim] : List Value).toArray s = true := fun w9 h => hts0 w9 (List.mem_cons_of_mem _ h)
  have hown : s.vm.findClass "ScaleShop" = some m.cls := findClass_of_methodNamed B.named
  have hlocks := B.notSynchronized
  subst hsz
  have hD := hD0.self (sz := s.heap.size)
  clear hD0
  generalize hAe : va_A ([(oc8 x (.ref sh) (.ref lw) (.ref ro) (.ref bq) (.ref bp) (.ref dq) (.ref dp) (.ref lv) (.ref sl) ds sd ul su), (oc3 lw (.ref dr) (.ref tg) (.ref wy) (.ref br) (.ref bo) (.ref aa)), (oc6 tg (.ref tx) (.ref ty) (nI nt) rt), (oa tx cI 3 TX), (oa ty cI 3 TY), (oc6 wy (.ref wx) (.ref wz) (nI nw) rw), (oa wx cI 2 WX), (oa wz cI 2 WY), (oc6 dr (.ref dx) (.ref dy) (nI nd) rd), (oa dx cI cd P), (oa dy cI cd Q), (oc0 br b1 b2 b3 b4), (oc0 bo b5 b6 b7 b8), (oa aa cI 40 AR), (oc7 sh (.ref fa) (nI ft)), (oq fa cF 200 FA), (oc1 fe rk9 wd9 tw9 pa9 pb9 (.ref lo) (.ref lk) (.ref fm)), (oc4 lk (kd f0) (st f0) (.ref r) gb9 jt9 (nI wn)), (oc6 r (.ref rx) (.ref ry) (nI n) (rgK (kd f0).toInt)), (oa rx cI cap X), (oa ry cI cap Y), (oc6 lo (.ref lx) (.ref ly) (nI ln9) 0), (oa lx cI cl9 LX), (oa ly cI cl9 LY)] ++ va_pl L f) s.heap.size = A at hD ⊢
  have hA : ∀ q : Nat, s.heap.size ≤ q → A q := fun q h => by rw [← hAe]; exact Or.inr h
  clear hAe
  have hS : va_S A s.heap s.heap [] := va_S.rf
  have hP : va_P (dC, dI) classes ([(oc8 x (.ref sh) (.ref lw) (.ref ro) (.ref bq) (.ref bp) (.ref dq) (.ref dp) (.ref lv) (.ref sl) ds sd ul su), (oc3 lw (.ref dr) (.ref tg) (.ref wy) (.ref br) (.ref bo) (.ref aa)), (oc6 tg (.ref tx) (.ref ty) (nI nt) rt), (oa tx cI 3 TX), (oa ty cI 3 TY), (oc6 wy (.ref wx) (.ref wz) (nI nw) rw), (oa wx cI 2 WX), (oa wz cI 2 WY), (oc6 dr (.ref dx) (.ref dy) (nI nd) rd), (oa dx cI cd P), (oa dy cI cd Q), (oc0 br b1 b2 b3 b4), (oc0 bo b5 b6 b7 b8), (oa aa cI 40 AR), (oc7 sh (.ref fa) (nI ft)), (oq fa cF 200 FA), (oc1 fe rk9 wd9 tw9 pa9 pb9 (.ref lo) (.ref lk) (.ref fm)), (oc4 lk (kd f0) (st f0) (.ref r) gb9 jt9 (nI wn)), (oc6 r (.ref rx) (.ref ry) (nI n) (rgK (kd f0).toInt)), (oa rx cI cap X), (oa ry cI cap Y), (oc6 lo (.ref lx) (.ref ly) (nI ln9) 0), (oa lx cI cl9 LX), (oa ly cI cl9 LY)] ++ va_pl L f) s.heap := hP
  obtain ⟨Q9, hQ9⟩ : ∃ Q9 : State → Prop, Q9 = MQ below (zQ (some (.int (nI m9))) (fun t => ∃ (nt1 : Nat), ∃ (TX1 : Nat → Int32), ∃ (TY1 : Nat → Int32), ∃ (rt1 : Int32), ∃ (nw1 : Nat), ∃ (WX1 : Nat → Int32), ∃ (WY1 : Nat → Int32), ∃ (rw1 : Int32), ∃ (nd1 : Nat), ∃ (P1 : Nat → Int32), ∃ (Q1 : Nat → Int32), ∃ (rd1 : Int32), ∃ (d5 : Int32), ∃ (d6 : Int32), ∃ (d7 : Int32), ∃ (d8 : Int32), ∃ (e5 : Int32), ∃ (e6 : Int32), ∃ (e7 : Int32), ∃ (e8 : Int32), ∃ (AR1 : Nat → Int32), ∃ (X2 : Nat → Int32), ∃ (Y2 : Nat → Int32), ∃ (LX2 : Nat → Int32), ∃ (LY2 : Nat → Int32), ∃ (lc2 : Nat), (∀ j, j < n1 → X2 j = cF40 cx1 f0 j ∧ Y2 j = cF40 cy1 f0 j) ∧ (lc2 ≤ cl9) ∧ va_P (dC, dI) classes ([(oc8 x (.ref sh) (.ref lw) (.ref ro) (.ref bq) (.ref bp) (.ref dq) (.ref dp) (.ref lv) (.ref sl) ds sd ul su), (oc3 lw (.ref dr) (.ref tg) (.ref wy) (.ref br) (.ref bo) (.ref aa)), (oc6 tg (.ref tx) (.ref ty) (nI nt1) rt1), (oa tx cI 3 TX1), (oa ty cI 3 TY1), (oc6 wy (.ref wx) (.ref wz) (nI nw1) rw1), (oa wx cI 2 WX1), (oa wz cI 2 WY1), (oc6 dr (.ref dx) (.ref dy) (nI nd1) rd1), (oa dx cI cd P1), (oa dy cI cd Q1), (oc0 br d5 d6 d7 d8), (oc0 bo e5 e6 e7 e8), (oa aa cI 40 AR1), (oc7 sh (.ref fa) (nI ft)), (oq fa cF 200 FA), (oc1 fe rk9 wd9 tw9 pa9 pb9 (.ref lo) (.ref lk) (.ref fm)), (oc4 lk (kd f0) (st f0) (.ref r) gb9 jt9 (nI (wn + m9))), (oc6 r (.ref rx) (.ref ry) (nI n1) (rgK (kd f0).toInt)), (oa rx cI cap X2), (oa ry cI cap Y2), (oc6 lo (.ref lx) (.ref ly) (nI lc2) 0), (oa lx cI cl9 LX2), (oa ly cI cl9 LY2)] ++ va_pl L f) t.heap ∧ va_D A ([(oc8 x (.ref sh) (.ref lw) (.ref ro) (.ref bq) (.ref bp) (.ref dq) (.ref dp) (.ref lv) (.ref sl) ds sd ul su), (oc3 lw (.ref dr) (.ref tg) (.ref wy) (.ref br) (.ref bo) (.ref aa)), (oc6 tg (.ref tx) (.ref ty) (nI nt1) rt1), (oa tx cI 3 TX1), (oa ty cI 3 TY1), (oc6 wy (.ref wx) (.ref wz) (nI nw1) rw1), (oa wx cI 2 WX1), (oa wz cI 2 WY1), (oc6 dr (.ref dx) (.ref dy) (nI nd1) rd1), (oa dx cI cd P1), (oa dy cI cd Q1), (oc0 br d5 d6 d7 d8), (oc0 bo e5 e6 e7 e8), (oa aa cI 40 AR1), (oc7 sh (.ref fa) (nI ft)), (oq fa cF 200 FA), (oc1 fe rk9 wd9 tw9 pa9 pb9 (.ref lo) (.ref lk) (.ref fm)), (oc4 lk (kd f0) (st f0) (.ref r) gb9 jt9 (nI (wn + m9))), (oc6 r (.ref rx) (.ref ry) (nI n1) (rgK (kd f0).toInt)), (oa rx cI cap X2), (oa ry cI cap Y2), (oc6 lo (.ref lx) (.ref ly) (nI lc2) 0), (oa lx cI cl9 LX2), (oa ly cI cl9 LY2)] ++ va_pl L f)) A) ([.ref x, .ref fe, .int lim] : List Value).toArray s 0 0 A := ⟨_, rfl⟩
  rw [← hQ9]
  have hl := lv_entry ([.ref x, .ref fe, .int lim]) (n := 6) (Nat.le_of_ble_eq_true rfl)
  rw [lg_entry_eq]
  generalize (lg_sl ([.ref x, .ref fe, .int lim]) ++ List.replicate (6 - (lg_sl ([.ref x, .ref fe, .int lim])).length) Slot.unset).toArray = ls at hl ⊢
  have hl : lv_has ls 6 [(0, .ref x), (1, .ref fe), (2, .int lim)] := hl
  refine lv_iconst (v := 0) hx hb dX10_thin_0 rfl ?_
  refine lv_istore_n (lv' := [(3, .int 0), (0, .ref x), (1, .ref fe), (2, .int lim)]) hx hb dX10_thin_1 rfl hl (Nat.le_of_ble_eq_true rfl) rfl (fun ls hl => ?_)
  refine lv_iconst (v := 0) hx hb dX10_thin_2 rfl ?_
  refine lv_istore (lv' := [(4, .int 0), (3, .int 0), (0, .ref x), (1, .ref fe), (2, .int lim)]) hx hb dX10_thin_3 hl (Nat.le_of_ble_eq_true rfl) rfl (fun ls hl => ?_)
  have hl_5 : ∀ (n9 : Nat) (i5 : Nat) (w3 : Nat) (m2r : Nat) (n2 : Nat) (wn2 : Nat) (lc2 : Nat) (X2 : Nat → Int32) (Y2 : Nat → Int32) (LX2 : Nat → Int32) (LY2 : Nat → Int32) (mnj : Nat → Int32) (cxj : Nat → Int32) (cyj : Nat → Int32) (nt1 : Nat) (TX1 : Nat → Int32) (TY1 : Nat → Int32) (rt1 : Int32) (nw1 : Nat) (WX1 : Nat → Int32) (WY1 : Nat → Int32) (rw1 : Int32) (nd1 : Nat) (P1 : Nat → Int32) (Q1 : Nat → Int32) (rd1 : Int32) (d5 : Int32) (d6 : Int32) (d7 : Int32) (d8 : Int32) (e5 : Int32) (e6 : Int32) (e7 : Int32) (e8 : Int32) (AR1 : Nat → Int32) (H : Heap) (locs : List Loc) (ls : Array Slot), m2r < n9 → (thI ft st tn kd f0 mnj cxj cyj n2) → (plN ft st tn kd f0 LM m2r mnj cxj cyj n2 mn1 cx1 cy1 n1) → (∀ j, j < n2 → X2 j = cF40 cxj f0 j ∧ Y2 j = cF40 cyj f0 j) → (othE f0 mn cx cy mnj cxj cyj) → (i5 + n2 ≤ 40 ∧ n2 ≤ cap ∧ wn2 + n2 ≤ cl9 ∧ n2 ≤ n) → (w3 + m2r = m9 ∧ wn2 + m2r = wn + m9) → (lc2 ≤ cl9) → va_P (dC, dI) classes ([(oc8 x (.ref sh) (.ref lw) (.ref ro) (.ref bq) (.ref bp) (.ref dq) (.ref dp) (.ref lv) (.ref sl) ds sd ul su), (oc3 lw (.ref dr) (.ref tg) (.ref wy) (.ref br) (.ref bo) (.ref aa)), (oc6 tg (.ref tx) (.ref ty) (nI nt1) rt1), (oa tx cI 3 TX1), (oa ty cI 3 TY1), (oc6 wy (.ref wx) (.ref wz) (nI nw1) rw1), (oa wx cI 2 WX1), (oa wz cI 2 WY1), (oc6 dr (.ref dx) (.ref dy) (nI nd1) rd1), (oa dx cI cd P1), (oa dy cI cd Q1), (oc0 br d5 d6 d7 d8), (oc0 bo e5 e6 e7 e8), (oa aa cI 40 AR1), (oc7 sh (.ref fa) (nI ft)), (oq fa cF 200 FA), (oc1 fe rk9 wd9 tw9 pa9 pb9 (.ref lo) (.ref lk) (.ref fm)), (oc4 lk (kd f0) (st f0) (.ref r) gb9 jt9 (nI wn2)), (oc6 r (.ref rx) (.ref ry) (nI n2) (rgK (kd f0).toInt)), (oa rx cI cap X2), (oa ry cI cap Y2), (oc6 lo (.ref lx) (.ref ly) (nI lc2) 0), (oa lx cI cl9 LX2), (oa ly cI cl9 LY2)] ++ va_pl L f) H → va_D A ([(oc8 x (.ref sh) (.ref lw) (.ref ro) (.ref bq) (.ref bp) (.ref dq) (.ref dp) (.ref lv) (.ref sl) ds sd ul su), (oc3 lw (.ref dr) (.ref tg) (.ref wy) (.ref br) (.ref bo) (.ref aa)), (oc6 tg (.ref tx) (.ref ty) (nI nt1) rt1), (oa tx cI 3 TX1), (oa ty cI 3 TY1), (oc6 wy (.ref wx) (.ref wz) (nI nw1) rw1), (oa wx cI 2 WX1), (oa wz cI 2 WY1), (oc6 dr (.ref dx) (.ref dy) (nI nd1) rd1), (oa dx cI cd P1), (oa dy cI cd Q1), (oc0 br d5 d6 d7 d8), (oc0 bo e5 e6 e7 e8), (oa aa cI 40 AR1), (oc7 sh (.ref fa) (nI ft)), (oq fa cF 200 FA), (oc1 fe rk9 wd9 tw9 pa9 pb9 (.ref lo) (.ref lk) (.ref fm)), (oc4 lk (kd f0) (st f0) (.ref r) gb9 jt9 (nI wn2)), (oc6 r (.ref rx) (.ref ry) (nI n2) (rgK (kd f0).toInt)), (oa rx cI cap X2), (oa ry cI cap Y2), (oc6 lo (.ref lx) (.ref ly) (nI lc2) 0), (oa lx cI cl9 LX2), (oa ly cI cl9 LY2)] ++ va_pl L f) → va_S A s.heap H locs → lv_has ls 6 [(4, .int (nI i5)), (3, .int (nI w3)), (0, .ref x), (1, .ref fe), (2, .int lim)] → W p l e ((headSpec (.code yX10_thin cX10_thin 6 (some .int) :: ws0) ({ frames := 6, cells := 0, slots := 0, locals := 157 } : Room)).room) s m ([.ref x, .ref fe, .int lim] : List Value).toArray below meth c H locs 0 0 Q9 (F0 m 5 ls []) := by
    intro n9
    induction n9 with
    | zero => intro i5 w3 m2r n2 wn2 lc2 X2 Y2 LX2 LY2 mnj cxj cyj nt1 TX1 TY1 rt1 nw1 WX1 WY1 rw1 nd1 P1 Q1 rd1 d5 d6 d7 d8 e5 e6 e7 e8 AR1 H locs ls hm; exact absurd hm (Nat.not_lt_zero _)
    | succ n9 ih_5 =>
      intro i5 w3 m2r n2 wn2 lc2 X2 Y2 LX2 LY2 mnj cxj cyj nt1 TX1 TY1 rt1 nw1 WX1 WY1 rw1 nd1 P1 Q1 rd1 d5 d6 d7 d8 e5 e6 e7 e8 AR1 H locs ls hm hIj hplj hXj hoj hcn hwm hlc2 hP hD hS hl
      refine lv_iload hx hb dX10_thin_5 (lv_at hl 0 rfl) ?_
      refine lv_bipush (v := 40) hx hb dX10_thin_7 rfl ?_
      have b9_2 : i5 < 2147483648 := by omega
      refine lv_icmp_ge (tgt := 51) hx hb dX10_thin_9 rfl (fun c_1 => ?_) (fun c_1 => ?_)
      · have c_1 : 40 ≤ ((i5 : Nat) : Int) := zc_le rfl (nI_toInt b9_2) c_1
        exfalso; have h9 := hIj.2.2.2.2.1; omega
      · have c_1 : ((i5 : Nat) : Int) < 40 := zc_nle rfl (nI_toInt b9_2) c_1
        have hwfj := hIj.1.2.2.2.1
        have hpj := hIj.1.2.2.1
        have h2j := hIj.2.2.2.2.1
        have hvwj : ∀ q, q < ft → q ≠ f0 → vwO cI L f FA kd st tn mnj cxj cyj q := fun q h1 h2 => vwO_cg (hoj.1 q h2) (hoj.2 q h2) (hvw q h1 h2)
        have hpx2 : pls n2 X2 Y2 := (pls_cg hXj).mpr hpj
        refine lv_aload_n hx hb dX10_thin_12 rfl (lv_at hl 2 rfl) ?_
        refine va_get (D := (dC, dI)) (ci := 8) (v := .ref lw) (C := RX10) (T := TX10) (N := 13) hx hb hts inX10 hown hK hP 0 rfl rfl 1 (Nat.le_of_ble_eq_true rfl) (hts _ mw_310) (fun _ h9 => h9) rfl dX10_thin_13 ?_
        rcases th_r hIj with ⟨h3, hno3⟩ | ⟨h3, hr3⟩
        · skip
          refine lv_aload_n hx hb dX10_thin_16 rfl (lv_at hl 2 rfl) ?_
          refine va_get (D := (dC, dI)) (ci := 8) (v := .ref sh) (C := RX10) (T := TX10) (N := 13) hx hb hts inX10 hown hK hP 0 rfl rfl 0 (Nat.le_of_ble_eq_true rfl) (hts _ mw_309) (fun _ h9 => h9) rfl dX10_thin_17 ?_
          refine lv_aload_n hx hb dX10_thin_20 rfl (lv_at hl 3 rfl) ?_
          refine lv_iload_n hx hb dX10_thin_21 rfl (lv_at hl 4 rfl) ?_
          obtain ⟨hPc, hDc, hFc⟩ := zc_part (cx := [(oc3 lw (.ref dr) (.ref tg) (.ref wy) (.ref br) (.ref bo) (.ref aa)), (oc6 tg (.ref tx) (.ref ty) (nI nt1) rt1), (oa tx cI 3 TX1), (oa ty cI 3 TY1), (oc6 wy (.ref wx) (.ref wz) (nI nw1) rw1), (oa wx cI 2 WX1), (oa wz cI 2 WY1), (oc6 dr (.ref dx) (.ref dy) (nI nd1) rd1), (oa dx cI cd P1), (oa dy cI cd Q1), (oc0 br d5 d6 d7 d8), (oc0 bo e5 e6 e7 e8), (oa aa cI 40 AR1), (oc7 sh (.ref fa) (nI ft)), (oq fa cF 200 FA), (oc1 fe rk9 wd9 tw9 pa9 pb9 (.ref lo) (.ref lk) (.ref fm)), (oc4 lk (kd f0) (st f0) (.ref r) gb9 jt9 (nI wn2)), (oc6 r (.ref rx) (.ref ry) (nI n2) (rgK (kd f0).toInt)), (oa rx cI cap X2), (oa ry cI cap Y2)]) hP hD hS hA [1, 2, 3, 4, 5, 6, 7, 8, 9, 10, 11, 12, 13, 14, 15, 16, 17, 18, 19, 20] rfl rfl
          refine zcall (st1 := [.int (-1)]) (va_runV (As := [.ref sh, .ref fe, .int lim]) (rest := []) ⟨hx, hb, hml, hown, hts⟩ (k_Law_cornerThatGoes_3 l dC dI cI cZ cF H.size lw dr tg wy br bo aa tx ty nt1 TX1 TY1 rt1 wx wz nw1 WX1 WY1 rw1 dx dy nd1 cd P1 Q1 rd1 d5 d6 d7 d8 e5 e6 e7 e8 AR1 sh fa ft FA fe lo rk9 wd9 tw9 pa9 pb9 lk (kd f0) (st f0) gb9 jt9 (nI wn2) r rx ry n2 cap X2 Y2 (rgK (kd f0).toInt) f0 (.ref fm) L f kd st tn mnj cxj cyj lim (by first | with_reducible assumption | omega) (by first | with_reducible assumption | omega) (hFA) (hIj.2.2.2.2.2.2.2.1) (hvwj) (hwfj) (hIj.2.2.1) (by first | with_reducible assumption | omega) (by first | with_reducible assumption | omega) (hpx2) (rgK_01 _) (by first | with_reducible assumption | omega) (by first | with_reducible assumption | omega) (h3)) (csV_78 hts rfl rfl ⟨Nat.le_of_ble_eq_true rfl, Nat.le_of_ble_eq_true rfl⟩) (zPV2 (q0 := 0) (ci := 3) hPc hDc hK hXN rfl rfl) rfl rfl hl.1 rfl (lv_room (Nat.le_of_ble_eq_true rfl)) dX10_thin_22 ⟨Nat.le_of_ble_eq_true rfl, Nat.le_of_ble_eq_true rfl⟩) hS hFc hFc rfl (fun t H locs ht hB hk1 hS => ?_)
          obtain ⟨hP1, hD1⟩ := hB
          rw [ht] at hP1
          obtain ⟨hP, hD⟩ := zkP (W2 := [(oc8 x (.ref sh) (.ref lw) (.ref ro) (.ref bq) (.ref bp) (.ref dq) (.ref dp) (.ref lv) (.ref sl) ds sd ul su), (oc3 lw (.ref dr) (.ref tg) (.ref wy) (.ref br) (.ref bo) (.ref aa)), (oc6 tg (.ref tx) (.ref ty) (nI nt1) rt1), (oa tx cI 3 TX1), (oa ty cI 3 TY1), (oc6 wy (.ref wx) (.ref wz) (nI nw1) rw1), (oa wx cI 2 WX1), (oa wz cI 2 WY1), (oc6 dr (.ref dx) (.ref dy) (nI nd1) rd1), (oa dx cI cd P1), (oa dy cI cd Q1), (oc0 br d5 d6 d7 d8), (oc0 bo e5 e6 e7 e8), (oa aa cI 40 AR1), (oc7 sh (.ref fa) (nI ft)), (oq fa cF 200 FA), (oc1 fe rk9 wd9 tw9 pa9 pb9 (.ref lo) (.ref lk) (.ref fm)), (oc4 lk (kd f0) (st f0) (.ref r) gb9 jt9 (nI wn2)), (oc6 r (.ref rx) (.ref ry) (nI n2) (rgK (kd f0).toInt)), (oa rx cI cap X2), (oa ry cI cap Y2), (oc6 lo (.ref lx) (.ref ly) (nI lc2) 0), (oa lx cI cl9 LX2), (oa ly cI cl9 LY2)]) hP hD [1, 2, 3, 4, 5, 6, 7, 8, 9, 10, 11, 12, 13, 14, 15, 16, 17, 18, 19, 20] [0, 21, 22, 23] [0, 21, 22, 23] [1, 2, 3, 4, 5, 6, 7, 8, 9, 10, 11, 12, 13, 14, 15, 16, 17, 18, 19, 20] [0, 4, 5, 6, 7, 8, 9, 10, 11, 12, 13, 14, 15, 16, 17, 18, 19, 20, 21, 22, 23, 1, 2, 3] 24 rfl rfl rfl rfl rfl rfl rfl rfl rfl hk1 hFc hP1 hD1
          clear hk1 hPc hDc hFc hP1 hD1 ht
          refine lv_istore (lv' := [(5, .int (-1)), (4, .int (nI i5)), (3, .int (nI w3)), (0, .ref x), (1, .ref fe), (2, .int lim)]) hx hb dX10_thin_25 hl (Nat.le_of_ble_eq_true rfl) rfl (fun ls hl => ?_)
          refine lv_iload hx hb dX10_thin_27 (lv_at hl 0 rfl) ?_
          refine lv_iconst (v := (-1)) hx hb dX10_thin_29 rfl ?_
          refine lv_icmp_ne (tgt := 36) hx hb dX10_thin_30 rfl (fun c_3 => ?_) (fun c_3 => ?_)
          · exact absurd (by decide) c_3
          · refine lv_goto (tgt := 51) hx hb dX10_thin_33 rfl ?_
            have hz9 := pl_no hplj (hno3 LM)
            refine lv_iload_n hx hb dX10_thin_51 rfl (lv_at hl 2 rfl) ?_
            obtain ⟨z0, z1, z2, z3, z4⟩ := hz9
            obtain ⟨hP9, hD9⟩ := zq_part (cx := [(oc8 x (.ref sh) (.ref lw) (.ref ro) (.ref bq) (.ref bp) (.ref dq) (.ref dp) (.ref lv) (.ref sl) ds sd ul su), (oc3 lw (.ref dr) (.ref tg) (.ref wy) (.ref br) (.ref bo) (.ref aa)), (oc6 tg (.ref tx) (.ref ty) (nI nt1) rt1), (oa tx cI 3 TX1), (oa ty cI 3 TY1), (oc6 wy (.ref wx) (.ref wz) (nI nw1) rw1), (oa wx cI 2 WX1), (oa wz cI 2 WY1), (oc6 dr (.ref dx) (.ref dy) (nI nd1) rd1), (oa dx cI cd P1), (oa dy cI cd Q1), (oc0 br d5 d6 d7 d8), (oc0 bo e5 e6 e7 e8), (oa aa cI 40 AR1), (oc7 sh (.ref fa) (nI ft)), (oq fa cF 200 FA), (oc1 fe rk9 wd9 tw9 pa9 pb9 (.ref lo) (.ref lk) (.ref fm)), (oc4 lk (kd f0) (st f0) (.ref r) gb9 jt9 (nI wn2)), (oc6 r (.ref rx) (.ref ry) (nI n2) (rgK (kd f0).toInt)), (oa rx cI cap X2), (oa ry cI cap Y2), (oc6 lo (.ref lx) (.ref ly) (nI lc2) 0), (oa lx cI cl9 LX2), (oa ly cI cl9 LY2)]) hP hD [0, 1, 2, 3, 4, 5, 6, 7, 8, 9, 10, 11, 12, 13, 14, 15, 16, 17, 18, 19, 20, 21, 22, 23] rfl rfl
            have hE9 : (([(oc8 x (.ref sh) (.ref lw) (.ref ro) (.ref bq) (.ref bp) (.ref dq) (.ref dp) (.ref lv) (.ref sl) ds sd ul su), (oc3 lw (.ref dr) (.ref tg) (.ref wy) (.ref br) (.ref bo) (.ref aa)), (oc6 tg (.ref tx) (.ref ty) (nI nt1) rt1), (oa tx cI 3 TX1), (oa ty cI 3 TY1), (oc6 wy (.ref wx) (.ref wz) (nI nw1) rw1), (oa wx cI 2 WX1), (oa wz cI 2 WY1), (oc6 dr (.ref dx) (.ref dy) (nI nd1) rd1), (oa dx cI cd P1), (oa dy cI cd Q1), (oc0 br d5 d6 d7 d8), (oc0 bo e5 e6 e7 e8), (oa aa cI 40 AR1), (oc7 sh (.ref fa) (nI ft)), (oq fa cF 200 FA), (oc1 fe rk9 wd9 tw9 pa9 pb9 (.ref lo) (.ref lk) (.ref fm)), (oc4 lk (kd f0) (st f0) (.ref r) gb9 jt9 (nI wn2)), (oc6 r (.ref rx) (.ref ry) (nI n2) (rgK (kd f0).toInt)), (oa rx cI cap X2), (oa ry cI cap Y2), (oc6 lo (.ref lx) (.ref ly) (nI lc2) 0), (oa lx cI cl9 LX2), (oa ly cI cl9 LY2)] ++ va_pl L f) : va_W) = ([(oc8 x (.ref sh) (.ref lw) (.ref ro) (.ref bq) (.ref bp) (.ref dq) (.ref dp) (.ref lv) (.ref sl) ds sd ul su), (oc3 lw (.ref dr) (.ref tg) (.ref wy) (.ref br) (.ref bo) (.ref aa)), (oc6 tg (.ref tx) (.ref ty) (nI nt1) rt1), (oa tx cI 3 TX1), (oa ty cI 3 TY1), (oc6 wy (.ref wx) (.ref wz) (nI nw1) rw1), (oa wx cI 2 WX1), (oa wz cI 2 WY1), (oc6 dr (.ref dx) (.ref dy) (nI nd1) rd1), (oa dx cI cd P1), (oa dy cI cd Q1), (oc0 br d5 d6 d7 d8), (oc0 bo e5 e6 e7 e8), (oa aa cI 40 AR1), (oc7 sh (.ref fa) (nI ft)), (oq fa cF 200 FA), (oc1 fe rk9 wd9 tw9 pa9 pb9 (.ref lo) (.ref lk) (.ref fm)), (oc4 lk (kd f0) (st f0) (.ref r) gb9 jt9 (nI (wn + m9))), (oc6 r (.ref rx) (.ref ry) (nI n1) (rgK (kd f0).toInt)), (oa rx cI cap X2), (oa ry cI cap Y2), (oc6 lo (.ref lx) (.ref ly) (nI lc2) 0), (oa lx cI cl9 LX2), (oa ly cI cl9 LY2)] ++ va_pl L f) := by rw [z4, show wn2 = wn + m9 by omega]
            rw [hE9] at hP9 hD9
            rw [hQ9]
            exact W.iret (v := nI w3) hx hb hr (fun t ht hW => ⟨⟨congrArg (fun z => Outcome.returned (some (Value.int z))) (show (nI w3 : Int32) = nI m9 from zn_eq (by omega)), nt1, TX1, TY1, rt1, nw1, WX1, WY1, rw1, nd1, P1, Q1, rd1, d5, d6, d7, d8, e5, e6, e7, e8, AR1, X2, Y2, LX2, LY2, lc2, (fun j hj => by rw [z2, z3]; exact hXj j (by omega)), (by omega), by rw [ht]; exact hP9, hD9⟩, hS.F ht⟩) hS.2.2 dX10_thin_52
        · skip
          refine lv_aload_n hx hb dX10_thin_16 rfl (lv_at hl 2 rfl) ?_
          refine va_get (D := (dC, dI)) (ci := 8) (v := .ref sh) (C := RX10) (T := TX10) (N := 13) hx hb hts inX10 hown hK hP 0 rfl rfl 0 (Nat.le_of_ble_eq_true rfl) (hts _ mw_309) (fun _ h9 => h9) rfl dX10_thin_17 ?_
          refine lv_aload_n hx hb dX10_thin_20 rfl (lv_at hl 3 rfl) ?_
          refine lv_iload_n hx hb dX10_thin_21 rfl (lv_at hl 4 rfl) ?_
          obtain ⟨hPc, hDc, hFc⟩ := zc_part (cx := [(oc3 lw (.ref dr) (.ref tg) (.ref wy) (.ref br) (.ref bo) (.ref aa)), (oc6 tg (.ref tx) (.ref ty) (nI nt1) rt1), (oa tx cI 3 TX1), (oa ty cI 3 TY1), (oc6 wy (.ref wx) (.ref wz) (nI nw1) rw1), (oa wx cI 2 WX1), (oa wz cI 2 WY1), (oc6 dr (.ref dx) (.ref dy) (nI nd1) rd1), (oa dx cI cd P1), (oa dy cI cd Q1), (oc0 br d5 d6 d7 d8), (oc0 bo e5 e6 e7 e8), (oa aa cI 40 AR1), (oc7 sh (.ref fa) (nI ft)), (oq fa cF 200 FA), (oc1 fe rk9 wd9 tw9 pa9 pb9 (.ref lo) (.ref lk) (.ref fm)), (oc4 lk (kd f0) (st f0) (.ref r) gb9 jt9 (nI wn2)), (oc6 r (.ref rx) (.ref ry) (nI n2) (rgK (kd f0).toInt)), (oa rx cI cap X2), (oa ry cI cap Y2)]) hP hD hS hA [1, 2, 3, 4, 5, 6, 7, 8, 9, 10, 11, 12, 13, 14, 15, 16, 17, 18, 19, 20] rfl rfl
          refine zcalle (va_runV (As := [.ref sh, .ref fe, .int lim]) (rest := []) ⟨hx, hb, hml, hown, hts⟩ (k_Law_cornerThatGoes l dC dI cI cZ cF H.size lw dr tg wy br bo aa tx ty nt1 TX1 TY1 rt1 wx wz nw1 WX1 WY1 rw1 dx dy nd1 cd P1 Q1 rd1 d5 d6 d7 d8 e5 e6 e7 e8 AR1 sh fa ft FA fe lo rk9 wd9 tw9 pa9 pb9 lk (kd f0) (st f0) gb9 jt9 (nI wn2) r rx ry n2 cap X2 Y2 (rgK (kd f0).toInt) f0 (.ref fm) L f kd st tn mnj cxj cyj lim (by first | with_reducible assumption | omega) (by first | with_reducible assumption | omega) (hFA) (hIj.2.2.2.2.2.2.2.1) (hvwj) (hwfj) (hIj.2.2.1) (by first | with_reducible assumption | omega) (by first | with_reducible assumption | omega) (hpx2) (rgK_01 _) (by first | with_reducible assumption | omega) (by first | with_reducible assumption | omega) (h3)) (csV_78 hts rfl rfl ⟨Nat.le_of_ble_eq_true rfl, Nat.le_of_ble_eq_true rfl⟩) (zPV2 (q0 := 0) (ci := 3) hPc hDc hK hXN rfl rfl) rfl rfl hl.1 rfl (lv_room (Nat.le_of_ble_eq_true rfl)) dX10_thin_22 ⟨Nat.le_of_ble_eq_true rfl, Nat.le_of_ble_eq_true rfl⟩) hS hFc hFc (fun v9 t H locs ht hB hk1 hS => ?_)
          obtain ⟨zb5, nt6, TX6, TY6, rt6, nw6, WX6, WY6, rw6, nd6, P6, Q6, rd6, g06, g16, g26, g36, g46, g56, g66, g76, AR6, rfl, hbs5, hP1, hD1⟩ := hB
          refine W.eq (g2 := F0 m 25 ls [.int zb5]) rfl ?_
          rw [ht] at hP1
          obtain ⟨hP, hD⟩ := zkP (W2 := [(oc8 x (.ref sh) (.ref lw) (.ref ro) (.ref bq) (.ref bp) (.ref dq) (.ref dp) (.ref lv) (.ref sl) ds sd ul su), (oc3 lw (.ref dr) (.ref tg) (.ref wy) (.ref br) (.ref bo) (.ref aa)), (oc6 tg (.ref tx) (.ref ty) (nI nt6) rt6), (oa tx cI 3 TX6), (oa ty cI 3 TY6), (oc6 wy (.ref wx) (.ref wz) (nI nw6) rw6), (oa wx cI 2 WX6), (oa wz cI 2 WY6), (oc6 dr (.ref dx) (.ref dy) (nI nd6) rd6), (oa dx cI cd P6), (oa dy cI cd Q6), (oc0 br g06 g16 g26 g36), (oc0 bo g46 g56 g66 g76), (oa aa cI 40 AR6), (oc7 sh (.ref fa) (nI ft)), (oq fa cF 200 FA), (oc1 fe rk9 wd9 tw9 pa9 pb9 (.ref lo) (.ref lk) (.ref fm)), (oc4 lk (kd f0) (st f0) (.ref r) gb9 jt9 (nI wn2)), (oc6 r (.ref rx) (.ref ry) (nI n2) (rgK (kd f0).toInt)), (oa rx cI cap X2), (oa ry cI cap Y2), (oc6 lo (.ref lx) (.ref ly) (nI lc2) 0), (oa lx cI cl9 LX2), (oa ly cI cl9 LY2)]) hP hD [1, 2, 3, 4, 5, 6, 7, 8, 9, 10, 11, 12, 13, 14, 15, 16, 17, 18, 19, 20] [0, 21, 22, 23] [0, 21, 22, 23] [1, 2, 3, 4, 5, 6, 7, 8, 9, 10, 11, 12, 13, 14, 15, 16, 17, 18, 19, 20] [0, 4, 5, 6, 7, 8, 9, 10, 11, 12, 13, 14, 15, 16, 17, 18, 19, 20, 21, 22, 23, 1, 2, 3] 24 rfl rfl rfl rfl rfl rfl rfl rfl rfl hk1 hFc hP1 hD1
          clear hk1 hPc hDc hFc hP1 hD1 ht
          refine lv_istore (lv' := [(5, .int zb5), (4, .int (nI i5)), (3, .int (nI w3)), (0, .ref x), (1, .ref fe), (2, .int lim)]) hx hb dX10_thin_25 hl (Nat.le_of_ble_eq_true rfl) rfl (fun ls hl => ?_)
          refine lv_iload hx hb dX10_thin_27 (lv_at hl 0 rfl) ?_
          refine lv_iconst (v := (-1)) hx hb dX10_thin_29 rfl ?_
          refine lv_icmp_ne (tgt := 36) hx hb dX10_thin_30 rfl (fun c_4 => ?_) (fun c_4 => ?_)
          · have c_4 : ¬ zb5.toInt = (-1) := zc_ne rfl rfl c_4
            obtain ⟨k5, hz5, hbest⟩ := (thB hIj (by omega) hL hXj hr3 hwfj hbs5).resolve_left (fun h9 => by omega)
            obtain ⟨m8, hm8, hplr⟩ := pl_go hplj hbest
            have hk5 := hbest.1
            refine lv_aload_n hx hb dX10_thin_36 rfl (lv_at hl 4 rfl) ?_
            refine lv_iload hx hb dX10_thin_37 (lv_at hl 0 rfl) ?_
            refine zz_i (v := nI k5) (hz5) ?_
            obtain ⟨hPc, hDc, hFc⟩ := zc_sub (wc := [(oc1 fe rk9 wd9 tw9 pa9 pb9 (.ref lo) (.ref lk) (.ref fm)), (oc4 lk (kd f0) (st f0) (.ref r) gb9 jt9 (nI wn2)), (oc6 r (.ref rx) (.ref ry) (nI n2) (rgK (kd f0).toInt)), (oa rx cI cap X2), (oa ry cI cap Y2), (oc6 lo (.ref lx) (.ref ly) (nI lc2) 0), (oa lx cI cl9 LX2), (oa ly cI cl9 LY2)]) hP hD hS hA [16, 17, 18, 19, 20, 21, 22, 23] rfl rfl
            refine zcall (st1 := []) (va_runV (As := [.int (nI k5)]) (rest := []) ⟨hx, hb, hml, hown, hts⟩ (k_Feature_losef l dC dI cI cZ cF H.size fe lo rk9 wd9 tw9 pa9 pb9 lk (kd f0) (st f0) gb9 jt9 fm k5 wn2 r rx ry n2 cap X2 Y2 (rgK (kd f0).toInt) lx ly lc2 cl9 LX2 LY2 (by first | with_reducible assumption | omega) (by first | with_reducible assumption | omega) (by first | with_reducible assumption | omega) (by first | with_reducible assumption | omega) (by first | with_reducible assumption | omega) (rgK_01 _)) (csV_79 hts rfl rfl ⟨Nat.le_of_ble_eq_true rfl, Nat.le_of_ble_eq_true rfl⟩) (zPV2 (q0 := 0) (ci := 1) hPc hDc hK hXN rfl rfl) rfl rfl hl.1 rfl (lv_room (Nat.le_of_ble_eq_true rfl)) dX10_thin_39 ⟨Nat.le_of_ble_eq_true rfl, Nat.le_of_ble_eq_true rfl⟩) hS hFc hFc rfl (fun t H locs ht hB hk1 hS => ?_)
            obtain ⟨X5, Y5, hlo5, hhi5, hP1, hD1⟩ := hB
            rw [ht] at hP1
            obtain ⟨hP, hD⟩ := zkQ (W2 := [(oc8 x (.ref sh) (.ref lw) (.ref ro) (.ref bq) (.ref bp) (.ref dq) (.ref dp) (.ref lv) (.ref sl) ds sd ul su), (oc3 lw (.ref dr) (.ref tg) (.ref wy) (.ref br) (.ref bo) (.ref aa)), (oc6 tg (.ref tx) (.ref ty) (nI nt6) rt6), (oa tx cI 3 TX6), (oa ty cI 3 TY6), (oc6 wy (.ref wx) (.ref wz) (nI nw6) rw6), (oa wx cI 2 WX6), (oa wz cI 2 WY6), (oc6 dr (.ref dx) (.ref dy) (nI nd6) rd6), (oa dx cI cd P6), (oa dy cI cd Q6), (oc0 br g06 g16 g26 g36), (oc0 bo g46 g56 g66 g76), (oa aa cI 40 AR6), (oc7 sh (.ref fa) (nI ft)), (oq fa cF 200 FA), (oc1 fe rk9 wd9 tw9 pa9 pb9 (.ref lo) (.ref lk) (.ref fm)), (oc4 lk (kd f0) (st f0) (.ref r) gb9 jt9 (nI (wn2 + 1))), (oc6 r (.ref rx) (.ref ry) (nI (n2 - 1)) (rgK (kd f0).toInt)), (oa rx cI cap X5), (oa ry cI cap Y5), (oc6 lo (.ref lx) (.ref ly) (nI (wn2 + 1)) 0), (oa lx cI cl9 (upd LX2 wn2 (X2 k5))), (oa ly cI cl9 (upd LY2 wn2 (Y2 k5)))]) hP hD [16, 17, 18, 19, 20, 21, 22, 23] [0, 1, 2, 3, 4, 5, 6, 7, 8, 9, 10, 11, 12, 13, 14, 15] [0, 1, 2, 3, 4, 5, 6, 7, 8, 9, 10, 11, 12, 13, 14, 15] [16, 17, 18, 19, 20, 21, 22, 23] [0, 1, 2, 3, 4, 5, 6, 7, 8, 9, 10, 11, 12, 13, 14, 15, 16, 17, 18, 19, 20, 21, 22, 23] 24 rfl rfl rfl rfl rfl rfl rfl rfl rfl hk1 hFc hP1 hD1
            clear hk1 hPc hDc hFc hP1 hD1 ht
            refine lv_iinc (v := nI (w3 + 1)) (lv' := [(3, .int (nI (w3 + 1))), (5, .int zb5), (4, .int (nI i5)), (0, .ref x), (1, .ref fe), (2, .int lim)]) hx hb dX10_thin_42 hl (k := 2) rfl (nI_add w3 1) (Nat.le_of_ble_eq_true rfl) rfl (fun ls hl => ?_)
            refine lv_iinc (v := nI (i5 + 1)) (lv' := [(4, .int (nI (i5 + 1))), (3, .int (nI (w3 + 1))), (5, .int zb5), (0, .ref x), (1, .ref fe), (2, .int lim)]) hx hb dX10_thin_45 hl (k := 2) rfl (nI_add i5 1) (Nat.le_of_ble_eq_true rfl) rfl (fun ls hl => ?_)
            refine lv_goto (tgt := 5) hx hb dX10_thin_48 rfl ?_
            exact ih_5 (i5 + 1) (w3 + 1) m8 (n2 - 1) (wn2 + 1) (wn2 + 1) X5 Y5 (upd LX2 wn2 (X2 k5)) (upd LY2 wn2 (Y2 k5)) (upd mnj f0 (nI (n2 - 1))) (shp f0 k5 (n2 - 1) cxj) (shp f0 k5 (n2 - 1) cyj) nt6 TX6 TY6 rt6 nw6 WX6 WY6 rw6 nd6 P6 Q6 rd6 g06 g16 g26 g36 g46 g56 g66 g76 AR6 H locs ls (by first | with_reducible assumption | omega) (thI_s hIj hbest) (hplr) (cut_row hXj hlo5 hhi5 hbest.1) (othE_s hoj (by first | with_reducible assumption | omega)) (by first | with_reducible assumption | omega) (by first | with_reducible assumption | omega) (by first | with_reducible assumption | omega) hP hD hS (lv_sub hl [0, 1, 3, 4, 5] rfl)
          · have c_4 : zb5.toInt = (-1) := zc_eq rfl rfl c_4
            refine lv_goto (tgt := 51) hx hb dX10_thin_33 rfl ?_
            have hz9 := pl_no hplj (by rcases thB hIj (by omega) hL hXj hr3 hwfj hbs5 with h9 | ⟨k9, h9, h8⟩; exact h9.2; exact absurd (show (zb5.toInt) = -1 by omega) (by rw [h9, nI_toInt (by have := h8.1; omega)]; omega))
            refine lv_iload_n hx hb dX10_thin_51 rfl (lv_at hl 2 rfl) ?_
            obtain ⟨z0, z1, z2, z3, z4⟩ := hz9
            obtain ⟨hP9, hD9⟩ := zq_part (cx := [(oc8 x (.ref sh) (.ref lw) (.ref ro) (.ref bq) (.ref bp) (.ref dq) (.ref dp) (.ref lv) (.ref sl) ds sd ul su), (oc3 lw (.ref dr) (.ref tg) (.ref wy) (.ref br) (.ref bo) (.ref aa)), (oc6 tg (.ref tx) (.ref ty) (nI nt6) rt6), (oa tx cI 3 TX6), (oa ty cI 3 TY6), (oc6 wy (.ref wx) (.ref wz) (nI nw6) rw6), (oa wx cI 2 WX6), (oa wz cI 2 WY6), (oc6 dr (.ref dx) (.ref dy) (nI nd6) rd6), (oa dx cI cd P6), (oa dy cI cd Q6), (oc0 br g06 g16 g26 g36), (oc0 bo g46 g56 g66 g76), (oa aa cI 40 AR6), (oc7 sh (.ref fa) (nI ft)), (oq fa cF 200 FA), (oc1 fe rk9 wd9 tw9 pa9 pb9 (.ref lo) (.ref lk) (.ref fm)), (oc4 lk (kd f0) (st f0) (.ref r) gb9 jt9 (nI wn2)), (oc6 r (.ref rx) (.ref ry) (nI n2) (rgK (kd f0).toInt)), (oa rx cI cap X2), (oa ry cI cap Y2), (oc6 lo (.ref lx) (.ref ly) (nI lc2) 0), (oa lx cI cl9 LX2), (oa ly cI cl9 LY2)]) hP hD [0, 1, 2, 3, 4, 5, 6, 7, 8, 9, 10, 11, 12, 13, 14, 15, 16, 17, 18, 19, 20, 21, 22, 23] rfl rfl
            have hE9 : (([(oc8 x (.ref sh) (.ref lw) (.ref ro) (.ref bq) (.ref bp) (.ref dq) (.ref dp) (.ref lv) (.ref sl) ds sd ul su), (oc3 lw (.ref dr) (.ref tg) (.ref wy) (.ref br) (.ref bo) (.ref aa)), (oc6 tg (.ref tx) (.ref ty) (nI nt6) rt6), (oa tx cI 3 TX6), (oa ty cI 3 TY6), (oc6 wy (.ref wx) (.ref wz) (nI nw6) rw6), (oa wx cI 2 WX6), (oa wz cI 2 WY6), (oc6 dr (.ref dx) (.ref dy) (nI nd6) rd6), (oa dx cI cd P6), (oa dy cI cd Q6), (oc0 br g06 g16 g26 g36), (oc0 bo g46 g56 g66 g76), (oa aa cI 40 AR6), (oc7 sh (.ref fa) (nI ft)), (oq fa cF 200 FA), (oc1 fe rk9 wd9 tw9 pa9 pb9 (.ref lo) (.ref lk) (.ref fm)), (oc4 lk (kd f0) (st f0) (.ref r) gb9 jt9 (nI wn2)), (oc6 r (.ref rx) (.ref ry) (nI n2) (rgK (kd f0).toInt)), (oa rx cI cap X2), (oa ry cI cap Y2), (oc6 lo (.ref lx) (.ref ly) (nI lc2) 0), (oa lx cI cl9 LX2), (oa ly cI cl9 LY2)] ++ va_pl L f) : va_W) = ([(oc8 x (.ref sh) (.ref lw) (.ref ro) (.ref bq) (.ref bp) (.ref dq) (.ref dp) (.ref lv) (.ref sl) ds sd ul su), (oc3 lw (.ref dr) (.ref tg) (.ref wy) (.ref br) (.ref bo) (.ref aa)), (oc6 tg (.ref tx) (.ref ty) (nI nt6) rt6), (oa tx cI 3 TX6), (oa ty cI 3 TY6), (oc6 wy (.ref wx) (.ref wz) (nI nw6) rw6), (oa wx cI 2 WX6), (oa wz cI 2 WY6), (oc6 dr (.ref dx) (.ref dy) (nI nd6) rd6), (oa dx cI cd P6), (oa dy cI cd Q6), (oc0 br g06 g16 g26 g36), (oc0 bo g46 g56 g66 g76), (oa aa cI 40 AR6), (oc7 sh (.ref fa) (nI ft)), (oq fa cF 200 FA), (oc1 fe rk9 wd9 tw9 pa9 pb9 (.ref lo) (.ref lk) (.ref fm)), (oc4 lk (kd f0) (st f0) (.ref r) gb9 jt9 (nI (wn + m9))), (oc6 r (.ref rx) (.ref ry) (nI n1) (rgK (kd f0).toInt)), (oa rx cI cap X2), (oa ry cI cap Y2), (oc6 lo (.ref lx) (.ref ly) (nI lc2) 0), (oa lx cI cl9 LX2), (oa ly cI cl9 LY2)] ++ va_pl L f) := by rw [z4, show wn2 = wn + m9 by omega]
            rw [hE9] at hP9 hD9
            rw [hQ9]
            exact W.iret (v := nI w3) hx hb hr (fun t ht hW => ⟨⟨congrArg (fun z => Outcome.returned (some (Value.int z))) (show (nI w3 : Int32) = nI m9 from zn_eq (by omega)), nt6, TX6, TY6, rt6, nw6, WX6, WY6, rw6, nd6, P6, Q6, rd6, g06, g16, g26, g36, g46, g56, g66, g76, AR6, X2, Y2, LX2, LY2, lc2, (fun j hj => by rw [z2, z3]; exact hXj j (by omega)), (by omega), by rw [ht]; exact hP9, hD9⟩, hS.F ht⟩) hS.2.2 dX10_thin_52
  exact hl_5 _ 0 0 m9 n wn ln9 X Y LX LY mn cx cy nt TX TY rt nw WX WY rw nd P Q rd b1 b2 b3 b4 b5 b6 b7 b8 AR s.heap [] ls (Nat.lt_succ_self _) (hI) (hpl) (hX) (othE_0 _ _ _ _) (by first | with_reducible assumption | omega) (by first | with_reducible assumption | omega) (by first | with_reducible assumption | omega) hP hD hS (lv_sub hl [0, 1, 2, 3, 4] rfl)
end
