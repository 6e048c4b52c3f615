section
set_option maxHeartbeats 4000000 in
set_option maxRecDepth 100000 in
theorem k_Law_cornerThatGoes_3 (l : Launch) (dC : Nat → ClassId) (dI : Nat → Nat → Nat) (cI cZ cF : ClassId) (sz : Nat) (lw : Nat) (dr : Nat) (tg : Nat) (wy : Nat) (br : Nat) (bo : Nat) (aa : Nat) (tx : Nat) (ty : Nat) (nt : Nat) (TX : Nat → Int32) (TY : Nat → Int32) (rt : Int32) (wx : Nat) (wz : Nat) (nw : Nat) (WX : Nat → Int32) (WY : Nat → Int32) (rw : Int32) (dx : Nat) (dy : Nat) (nd : Nat) (cd : Nat) (P : Nat → Int32) (Q : Nat → Int32) (rd : Int32) (b1 : Int32) (b2 : Int32) (b3 : Int32) (b4 : Int32) (b5 : Int32) (b6 : Int32) (b7 : Int32) (b8 : Int32) (AR : Nat → Int32) (sh : Nat) (fa : Nat) (ft : Nat) (FA : Nat → Option Nat) (fe : Nat) (lo : Nat) (rk9 : Int32) (wd9 : Int32) (tw9 : Int32) (pa9 : Int32) (pb9 : Int32) (lk : Nat) (kd9 : Int32) (st9 : Int32) (gb9 : Int32) (jt9 : Int32) (we9 : Int32) (r : Nat) (rx : Nat) (ry : Nat) (n : Nat) (cap : Nat) (X : Nat → Int32) (Y : Nat → Int32) (rg : Int32) (f0 : Nat) (fm9 : Value) (L : List Nat) (f : Nat → va_E) (kd : Nat → Int32) (st : Nat → Int32) (tn : Nat → Int32) (mn : Nat → Int32) (cx : Nat → Int32) (cy : Nat → Int32) (lim : Int32) (h200 : ft ≤ 200) (hf0 : f0 < ft) (hFA : FA f0 = some fe) (hs1 : st9.toInt = 1) (hvw : ∀ q, q < ft → q ≠ f0 → vwO cI L f FA kd st tn mn cx cy q) (hwf : ∀ q, lvF ft st tn q → wfM mn cx cy q) (hkn : okN ft st tn kd mn) (hn : n ≤ cap) (hcap : cap ≤ 1000) (hp : pls n X Y) (hrg : rg = 0 ∨ rg = 1) (hn2 : 2 ≤ n ∧ n ≤ 40) (hcd : n ≤ cd ∧ cd ≤ 1000) (h3 : ¬ rg.toInt = 0 ∧ n ≤ 3) : zM l yX4_cornerThatGoes cX4_cornerThatGoes 7 (some .int) ({ frames := 0, cells := 0, slots := 0, locals := 0 } : Room) [.ref lw, .ref sh, .ref fe, .int lim] (dC, dI) (zTy cI cZ cF) ([(oc3 lw (.ref dr) (.ref tg) (.ref wy) (.ref br) (.ref bo) (.ref aa)), (oc6 tg (.ref tx) (.ref ty) (nI nt) rt), (oa tx cI 3 TX), (oa ty cI 3 TY), (oc6 wy (.ref wx) (.ref wz) (nI nw) rw), (oa wx cI 2 WX), (oa wz cI 2 WY), (oc6 dr (.ref dx) (.ref dy) (nI nd) rd), (oa dx cI cd P), (oa dy cI cd Q), (oc0 br b1 b2 b3 b4), (oc0 bo b5 b6 b7 b8), (oa aa cI 40 AR), (oc7 sh (.ref fa) (nI ft)), (oq fa cF 200 FA), (oc1 fe rk9 wd9 tw9 pa9 pb9 (.ref lo) (.ref lk) fm9), (oc4 lk kd9 st9 (.ref r) gb9 jt9 we9), (oc6 r (.ref rx) (.ref ry) (nI n) rg), (oa rx cI cap X), (oa ry cI cap Y)] ++ va_pl L f) sz (some (.int (-1))) (fun A t => zPD (dC, dI) classes A ([(oc3 lw (.ref dr) (.ref tg) (.ref wy) (.ref br) (.ref bo) (.ref aa)), (oc6 tg (.ref tx) (.ref ty) (nI nt) rt), (oa tx cI 3 TX), (oa ty cI 3 TY), (oc6 wy (.ref wx) (.ref wz) (nI nw) rw), (oa wx cI 2 WX), (oa wz cI 2 WY), (oc6 dr (.ref dx) (.ref dy) (nI nd) rd), (oa dx cI cd P), (oa dy cI cd Q), (oc0 br b1 b2 b3 b4), (oc0 bo b5 b6 b7 b8), (oa aa cI 40 AR), (oc7 sh (.ref fa) (nI ft)), (oq fa cF 200 FA), (oc1 fe rk9 wd9 tw9 pa9 pb9 (.ref lo) (.ref lk) fm9), (oc4 lk kd9 st9 (.ref r) gb9 jt9 we9), (oc6 r (.ref rx) (.ref ry) (nI n) rg), (oa rx cI cap X), (oa ry cI cap Y)] ++ va_pl L f) t.heap) 0 0 := by
  refine zIn (own := "ScaleShop$Law") (loc := [(0, .ref lw), (1, .ref sh), (2, .ref fe), (3, .int lim)]) rfl rfl rfl rfl (fun p e s m below meth c hx hb hr hts hown hlocks hml hnm9 A hA hS hP hD hK hXN Q9 hQ9 ls hl => ?_)
  refine lv_aload_n hx hb dX4_cornerThatGoes_0 rfl (lv_at hl 2 rfl) ?_
  refine va_get (D := (dC, dI)) (ci := 1) (v := .ref lk) (C := RX2) (T := TX2) (N := 8) hx hb hts inX2 hown hK hP 15 rfl rfl 6 (Nat.le_of_ble_eq_true rfl) (hts _ mw_430) (fun _ h9 => h9) rfl dX4_cornerThatGoes_1 ?_
  refine va_get (D := (dC, dI)) (ci := 4) (v := .ref r) (C := RX5) (T := TX5) (N := 6) hx hb hts inX5 hown hK hP 16 rfl rfl 2 (Nat.le_of_ble_eq_true rfl) (hts _ mw_389) (fun _ h9 => h9) rfl dX4_cornerThatGoes_4 ?_
  refine lv_astore (lv' := [(4, .ref r), (0, .ref lw), (1, .ref sh), (2, .ref fe), (3, .int lim)]) hx hb dX4_cornerThatGoes_7 hl (Nat.le_of_ble_eq_true rfl) rfl (fun ls hl => ?_)
  refine lv_aload hx hb dX4_cornerThatGoes_9 (lv_at hl 0 rfl) ?_
  refine lv_ifnull hx hb dX4_cornerThatGoes_11 ?_
  refine lv_aload hx hb dX4_cornerThatGoes_14 (lv_at hl 0 rfl) ?_
  refine va_get (D := (dC, dI)) (ci := 6) (v := .int rg) (C := RX7) (T := TX7) (N := 4) hx hb hts inX7 hown hK hP 17 rfl rfl 3 (Nat.le_of_ble_eq_true rfl) (hts _ mw_184) (fun _ h9 => h9) rfl dX4_cornerThatGoes_16 ?_
  refine lv_if_eq (tgt := 33) hx hb dX4_cornerThatGoes_19 rfl (fun c_1 => ?_) (fun c_1 => ?_)
  · have c_1 : rg.toInt = 0 := zc_eq rfl rfl c_1
    exfalso; omega
  · have c_1 : ¬ rg.toInt = 0 := zc_ne rfl rfl c_1
    refine lv_aload hx hb dX4_cornerThatGoes_22 (lv_at hl 0 rfl) ?_
    refine va_get (D := (dC, dI)) (ci := 6) (v := .int (nI n)) (C := RX7) (T := TX7) (N := 4) hx hb hts inX7 hown hK hP 17 rfl rfl 2 (Nat.le_of_ble_eq_true rfl) (hts _ mw_176) (fun _ h9 => h9) rfl dX4_cornerThatGoes_24 ?_
    refine lv_iconst (v := 3) hx hb dX4_cornerThatGoes_27 rfl ?_
    have b9_3 : zlt (n) := show n < 2147483648 by omega
    refine lv_icmp_gt (tgt := 33) hx hb dX4_cornerThatGoes_28 rfl (fun c_2 => ?_) (fun c_2 => ?_)
    · have c_2 : 3 < ((n : Nat) : Int) := zc_lt rfl (nI_toInt b9_3) c_2
      exfalso; omega
    · have c_2 : ((n : Nat) : Int) ≤ 3 := zc_nlt rfl (nI_toInt b9_3) c_2
      refine lv_iconst (v := (-1)) hx hb dX4_cornerThatGoes_31 rfl ?_
      obtain ⟨hP9, hD9⟩ := zu_part (cx := [_, _, _, _, _, _, _, _, _, _, _, _, _, _, _, _, _, _, _, _]) hP hD [true, true, true, true, true, true, true, true, true, true, true, true, true, true, true, true, true, true, true, true] rfl rfl
      rw [hQ9]
      exact W.iret (v := (-1)) hx hb hr (fun t ht hW => ⟨⟨rfl, by rw [ht]; exact hP9, hD9⟩, hS.F ht⟩) hS.2.2 dX4_cornerThatGoes_32
set_option maxHeartbeats 4000000 in
set_option maxRecDepth 100000 in
theorem k_Law_cornerThatGoes (l : Launch) (dC : Nat → ClassId) (dI : Nat → Nat → Nat) (cI cZ cF : ClassId) (sz : Nat) (lw : Nat) (dr : Nat) (tg : Nat) (wy : Nat) (br : Nat) (bo : Nat) (aa : Nat) (tx : Nat) (ty : Nat) (nt : Nat) (TX : Nat → Int32) (TY : Nat → Int32) (rt : Int32) (wx : Nat) (wz : Nat) (nw : Nat) (WX : Nat → Int32) (WY : Nat → Int32) (rw : Int32) (dx : Nat) (dy : Nat) (nd : Nat) (cd : Nat) (P : Nat → Int32) (Q : Nat → Int32) (rd : Int32) (b1 : Int32) (b2 : Int32) (b3 : Int32) (b4 : Int32) (b5 : Int32) (b6 : Int32) (b7 : Int32) (b8 : Int32) (AR : Nat → Int32) (sh : Nat) (fa : Nat) (ft : Nat) (FA : Nat → Option Nat) (fe : Nat) (lo : Nat) (rk9 : Int32) (wd9 : Int32) (tw9 : Int32) (pa9 : Int32) (pb9 : Int32) (lk : Nat) (kd9 : Int32) (st9 : Int32) (gb9 : Int32) (jt9 : Int32) (we9 : Int32) (r : Nat) (rx : Nat) (ry : Nat) (n : Nat) (cap : Nat) (X : Nat → Int32) (Y : Nat → Int32) (rg : Int32) (f0 : Nat) (fm9 : Value) (L : List Nat) (f : Nat → va_E) (kd : Nat → Int32) (st : Nat → Int32) (tn : Nat → Int32) (mn : Nat → Int32) (cx : Nat → Int32) (cy : Nat → Int32) (lim : Int32) (h200 : ft ≤ 200) (hf0 : f0 < ft) (hFA : FA f0 = some fe) (hs1 : st9.toInt = 1) (hvw : ∀ q, q < ft → q ≠ f0 → vwO cI L f FA kd st tn mn cx cy q) (hwf : ∀ q, lvF ft st tn q → wfM mn cx cy q) (hkn : okN ft st tn kd mn) (hn : n ≤ cap) (hcap : cap ≤ 1000) (hp : pls n X Y) (hrg : rg = 0 ∨ rg = 1) (hn2 : 2 ≤ n ∧ n ≤ 40) (hcd : n ≤ cd ∧ cd ≤ 1000) (h3 : rg.toInt = 0 ∨ 4 ≤ n) : Met l yX4_cornerThatGoes (.code yX4_cornerThatGoes cX4_cornerThatGoes 7 (some .int) :: ws0) ({ frames := 5, cells := 0, slots := 0, locals := 131 } : Room) (va_Pc [.ref lw, .ref sh, .ref fe, .int lim] (zPre (dC, dI) classes (zTy cI cZ cF) ([(oc3 lw (.ref dr) (.ref tg) (.ref wy) (.ref br) (.ref bo) (.ref aa)), (oc6 tg (.ref tx) (.ref ty) (nI nt) rt), (oa tx cI 3 TX), (oa ty cI 3 TY), (oc6 wy (.ref wx) (.ref wz) (nI nw) rw), (oa wx cI 2 WX), (oa wz cI 2 WY), (oc6 dr (.ref dx) (.ref dy) (nI nd) rd), (oa dx cI cd P), (oa dy cI cd Q), (oc0 br b1 b2 b3 b4), (oc0 bo b5 b6 b7 b8), (oa aa cI 40 AR), (oc7 sh (.ref fa) (nI ft)), (oq fa cF 200 FA), (oc1 fe rk9 wd9 tw9 pa9 pb9 (.ref lo) (.ref lk) fm9), (oc4 lk kd9 st9 (.ref r) gb9 jt9 we9), (oc6 r (.ref rx) (.ref ry) (nI n) rg), (oa rx cI cap X), (oa ry cI cap Y)] ++ va_pl L f) sz zXN)) (zQe (fun v9 t => ∃ (zb : Int32), ∃ (nt1 : Nat), ∃ (TX1 : Nat → Int32), ∃ (TY1 : Nat → Int32), ∃ (rt1 : Int32), ∃ (nw1 : Nat), ∃ (WX1 : Nat → Int32), ∃ (WY1 : Nat → Int32), ∃ (rw1 : Int32), ∃ (nd1 : Nat), ∃ (P1 : Nat → Int32), ∃ (Q1 : Nat → Int32), ∃ (rd1 : Int32), ∃ (d5 : Int32), ∃ (d6 : Int32), ∃ (d7 : Int32), ∃ (d8 : Int32), ∃ (e5 : Int32), ∃ (e6 : Int32), ∃ (e7 : Int32), ∃ (e8 : Int32), ∃ (AR1 : Nat → Int32), v9 = (some (.int zb)) ∧ (bstS (arT n X Y) (fun k => ¬ goK ft st tn kd mn cx cy f0 n X Y rg lim k) n zb) ∧ va_P (dC, dI) classes ([(oc3 lw (.ref dr) (.ref tg) (.ref wy) (.ref br) (.ref bo) (.ref aa)), (oc6 tg (.ref tx) (.ref ty) (nI nt1) rt1), (oa tx cI 3 TX1), (oa ty cI 3 TY1), (oc6 wy (.ref wx) (.ref wz) (nI nw1) rw1), (oa wx cI 2 WX1), (oa wz cI 2 WY1), (oc6 dr (.ref dx) (.ref dy) (nI nd1) rd1), (oa dx cI cd P1), (oa dy cI cd Q1), (oc0 br d5 d6 d7 d8), (oc0 bo e5 e6 e7 e8), (oa aa cI 40 AR1), (oc7 sh (.ref fa) (nI ft)), (oq fa cF 200 FA), (oc1 fe rk9 wd9 tw9 pa9 pb9 (.ref lo) (.ref lk) fm9), (oc4 lk kd9 st9 (.ref r) gb9 jt9 we9), (oc6 r (.ref rx) (.ref ry) (nI n) rg), (oa rx cI cap X), (oa ry cI cap Y)] ++ va_pl L f) t.heap ∧ va_D (va_A ([(oc3 lw (.ref dr) (.ref tg) (.ref wy) (.ref br) (.ref bo) (.ref aa)), (oc6 tg (.ref tx) (.ref ty) (nI nt) rt), (oa tx cI 3 TX), (oa ty cI 3 TY), (oc6 wy (.ref wx) (.ref wz) (nI nw) rw), (oa wx cI 2 WX), (oa wz cI 2 WY), (oc6 dr (.ref dx) (.ref dy) (nI nd) rd), (oa dx cI cd P), (oa dy cI cd Q), (oc0 br b1 b2 b3 b4), (oc0 bo b5 b6 b7 b8), (oa aa cI 40 AR), (oc7 sh (.ref fa) (nI ft)), (oq fa cF 200 FA), (oc1 fe rk9 wd9 tw9 pa9 pb9 (.ref lo) (.ref lk) fm9), (oc4 lk kd9 st9 (.ref r) gb9 jt9 we9), (oc6 r (.ref rx) (.ref ry) (nI n) rg), (oa rx cI cap X), (oa ry cI cap Y)] ++ va_pl L f) sz) ([(oc3 lw (.ref dr) (.ref tg) (.ref wy) (.ref br) (.ref bo) (.ref aa)), (oc6 tg (.ref tx) (.ref ty) (nI nt1) rt1), (oa tx cI 3 TX1), (oa ty cI 3 TY1), (oc6 wy (.ref wx) (.ref wz) (nI nw1) rw1), (oa wx cI 2 WX1), (oa wz cI 2 WY1), (oc6 dr (.ref dx) (.ref dy) (nI nd1) rd1), (oa dx cI cd P1), (oa dy cI cd Q1), (oc0 br d5 d6 d7 d8), (oc0 bo e5 e6 e7 e8), (oa aa cI 40 AR1), (oc7 sh (.ref fa) (nI ft)), (oq fa cF 200 FA), (oc1 fe rk9 wd9 tw9 pa9 pb9 (.ref lo) (.ref lk) fm9), (oc4 lk kd9 st9 (.ref r) gb9 jt9 we9), (oc6 r (.ref rx) (.ref ry) (nI n) rg), (oa rx cI cap X), (oa ry cI cap Y)] ++ va_pl L f)) (va_A ([(oc3 lw (.ref dr) (.ref tg) (.ref wy) (.ref br) (.ref bo) (.ref aa)), (oc6 tg (.ref tx) (.ref ty) (nI nt) rt), (oa tx cI 3 TX), (oa ty cI 3 TY), (oc6 wy (.ref wx) (.ref wz) (nI nw) rw), (oa wx cI 2 WX), (oa wz cI 2 WY), (oc6 dr (.ref dx) (.ref dy) (nI nd) rd), (oa dx cI cd P), (oa dy cI cd Q), (oc0 br b1 b2 b3 b4), (oc0 bo b5 b6 b7 b8), (oa aa cI 40 AR), (oc7 sh (.ref fa) (nI ft)), (oq fa cF 200 FA), (oc1 fe rk9 wd9 tw9 pa9 pb9 (.ref lo) (.ref lk) fm9), (oc4 lk kd9 st9 (.ref r) gb9 jt9 we9), (oc6 r (.ref rx) (.ref ry) (nI n) rg), (oa rx cI cap X), (oa ry cI cap Y)] ++ va_pl L f) sz)) 0 0 (va_A ([(oc3 lw (.ref dr) (.ref tg) (.ref wy) (.ref br) (.ref bo) (.ref aa)), (oc6 tg (.ref tx) (.ref ty) (nI nt) rt), (oa tx cI 3 TX), (oa ty cI 3 TY), (oc6 wy (.ref wx) (.ref wz) (nI nw) rw), (oa wx cI 2 WX), (oa wz cI 2 WY), (oc6 dr (.ref dx) (.ref dy) (nI nd) rd), (oa dx cI cd P), (oa dy cI cd Q), (oc0 br b1 b2 b3 b4), (oc0 bo b5 b6 b7 b8), (oa aa cI 40 AR), (oc7 sh (.ref fa) (nI ft)), (oq fa cF 200 FA), (oc1 fe rk9 wd9 tw9 pa9 pb9 (.ref lo) (.ref lk) fm9), (oc4 lk kd9 st9 (.ref r) gb9 jt9 we9), (oc6 r (.ref rx) (.ref ry) (nI n) rg), (oa rx cI cap X), (oa ry cI cap Y)] ++ va_pl L f) sz) := by
  refine Met.ofW (cc := cX4_cornerThatGoes) (maxL := 7) (ret := (some .int)) rfl rfl ?_
  intro p e s m args below meth c s₁ B hml hv
  obtain ⟨rfl, hsz, hP, hK, hD0, hXN⟩ := hv
  have hx := B.exec
  have hb := B.bytes
  have hr := B.returns
  have hts0 := atoms_spec (ws := .code yX4_cornerThatGoes cX4_cornerThatGoes 7 (some .int) :: ws0) B.pre
  have hts : ∀ w9 ∈ ws0, w9.before ([.ref lw, .ref sh, .ref fe, .int lim] : List Value).toArray s = true := fun w9 h => hts0 w9 (List.mem_cons_of_mem _ h)
  have hown : s.vm.findClass "ScaleShop$Law" = some m.cls := findClass_of_methodNamed B.named
  have hlocks := B.notSynchronized
  subst hsz
  have hD := hD0.self (sz := s.heap.size)
  clear hD0
  generalize hAe : va_A ([(oc3 lw (.ref dr) (.ref tg) (.ref wy) (.ref br) (.ref bo) (.ref aa)), (oc6 tg (.ref tx) (.ref ty) (nI nt) rt), (oa tx cI 3 TX), (oa ty cI 3 TY), (oc6 wy (.ref wx) (.ref wz) (nI nw) rw), (oa wx cI 2 WX), (oa wz cI 2 WY), (oc6 dr (.ref dx) (.ref dy) (nI nd) rd), (oa dx cI cd P), (oa dy cI cd Q), (oc0 br b1 b2 b3 b4), (oc0 bo b5 b6 b7 b8), (oa aa cI 40 AR), (oc7 sh (.ref fa) (nI ft)), (oq fa cF 200 FA), (oc1 fe rk9 wd9 tw9 pa9 pb9 (.ref lo) (.ref lk) fm9), (oc4 lk kd9 st9 (.ref r) gb9 jt9 we9), (oc6 r (.ref rx) (.ref ry) (nI n) rg), (oa rx cI cap X), (oa ry cI cap Y)] ++ va_pl L f) s.heap.size = A at hD ⊢
  have hA : ∀ q : Nat, s.heap.size ≤ q → A q := fun q h => by rw [← hAe]; exact Or.inr h
  clear hAe
  have hS : va_S A s.heap s.heap [] := va_S.rf
  have hP : va_P (dC, dI) classes ([(oc3 lw (.ref dr) (.ref tg) (.ref wy) (.ref br) (.ref bo) (.ref aa)), (oc6 tg (.ref tx) (.ref ty) (nI nt) rt), (oa tx cI 3 TX), (oa ty cI 3 TY), (oc6 wy (.ref wx) (.ref wz) (nI nw) rw), (oa wx cI 2 WX), (oa wz cI 2 WY), (oc6 dr (.ref dx) (.ref dy) (nI nd) rd), (oa dx cI cd P), (oa dy cI cd Q), (oc0 br b1 b2 b3 b4), (oc0 bo b5 b6 b7 b8), (oa aa cI 40 AR), (oc7 sh (.ref fa) (nI ft)), (oq fa cF 200 FA), (oc1 fe rk9 wd9 tw9 pa9 pb9 (.ref lo) (.ref lk) fm9), (oc4 lk kd9 st9 (.ref r) gb9 jt9 we9), (oc6 r (.ref rx) (.ref ry) (nI n) rg), (oa rx cI cap X), (oa ry cI cap Y)] ++ va_pl L f) s.heap := hP
  obtain ⟨Q9, hQ9⟩ : ∃ Q9 : State → Prop, Q9 = MQ below (zQe (fun v9 t => ∃ (zb : Int32), ∃ (nt1 : Nat), ∃ (TX1 : Nat → Int32), ∃ (TY1 : Nat → Int32), ∃ (rt1 : Int32), ∃ (nw1 : Nat), ∃ (WX1 : Nat → Int32), ∃ (WY1 : Nat → Int32), ∃ (rw1 : Int32), ∃ (nd1 : Nat), ∃ (P1 : Nat → Int32), ∃ (Q1 : Nat → Int32), ∃ (rd1 : Int32), ∃ (d5 : Int32), ∃ (d6 : Int32), ∃ (d7 : Int32), ∃ (d8 : Int32), ∃ (e5 : Int32), ∃ (e6 : Int32), ∃ (e7 : Int32), ∃ (e8 : Int32), ∃ (AR1 : Nat → Int32), v9 = (some (.int zb)) ∧ (bstS (arT n X Y) (fun k => ¬ goK ft st tn kd mn cx cy f0 n X Y rg lim k) n zb) ∧ va_P (dC, dI) classes ([(oc3 lw (.ref dr) (.ref tg) (.ref wy) (.ref br) (.ref bo) (.ref aa)), (oc6 tg (.ref tx) (.ref ty) (nI nt1) rt1), (oa tx cI 3 TX1), (oa ty cI 3 TY1), (oc6 wy (.ref wx) (.ref wz) (nI nw1) rw1), (oa wx cI 2 WX1), (oa wz cI 2 WY1), (oc6 dr (.ref dx) (.ref dy) (nI nd1) rd1), (oa dx cI cd P1), (oa dy cI cd Q1), (oc0 br d5 d6 d7 d8), (oc0 bo e5 e6 e7 e8), (oa aa cI 40 AR1), (oc7 sh (.ref fa) (nI ft)), (oq fa cF 200 FA), (oc1 fe rk9 wd9 tw9 pa9 pb9 (.ref lo) (.ref lk) fm9), (oc4 lk kd9 st9 (.ref r) gb9 jt9 we9), (oc6 r (.ref rx) (.ref ry) (nI n) rg), (oa rx cI cap X), (oa ry cI cap Y)] ++ va_pl L f) t.heap ∧ va_D A ([(oc3 lw (.ref dr) (.ref tg) (.ref wy) (.ref br) (.ref bo) (.ref aa)), (oc6 tg (.ref tx) (.ref ty) (nI nt1) rt1), (oa tx cI 3 TX1), (oa ty cI 3 TY1), (oc6 wy (.ref wx) (.ref wz) (nI nw1) rw1), (oa wx cI 2 WX1), (oa wz cI 2 WY1), (oc6 dr (.ref dx) (.ref dy) (nI nd1) rd1), (oa dx cI cd P1), (oa dy cI cd Q1), (oc0 br d5 d6 d7 d8), (oc0 bo e5 e6 e7 e8), (oa aa cI 40 AR1), (oc7 sh (.ref fa) (nI ft)), (oq fa cF 200 FA), (oc1 fe rk9 wd9 tw9 pa9 pb9 (.ref lo) (.ref lk) fm9), (oc4 lk kd9 st9 (.ref r) gb9 jt9 we9), (oc6 r (.ref rx) (.ref ry) (nI n) rg), (oa rx cI cap X), (oa ry cI cap Y)] ++ va_pl L f)) A) ([.ref lw, .ref sh, .ref fe, .int lim] : List Value).toArray s 0 0 A := ⟨_, rfl⟩
  rw [← hQ9]
  have hl := lv_entry ([.ref lw, .ref sh, .ref fe, .int lim]) (n := 7) (Nat.le_of_ble_eq_true rfl)
  rw [lg_entry_eq]
  generalize (lg_sl ([.ref lw, .ref sh, .ref fe, .int lim]) ++ List.replicate (7 - (lg_sl ([.ref lw, .ref sh, .ref fe, .int lim])).length) Slot.unset).toArray = ls at hl ⊢
  have hl : lv_has ls 7 [(0, .ref lw), (1, .ref sh), (2, .ref fe), (3, .int lim)] := hl
  refine lv_aload_n hx hb dX4_cornerThatGoes_0 rfl (lv_at hl 2 rfl) ?_
  refine va_get (D := (dC, dI)) (ci := 1) (v := .ref lk) (C := RX2) (T := TX2) (N := 8) hx hb hts inX2 hown hK hP 15 rfl rfl 6 (Nat.le_of_ble_eq_true rfl) (hts _ mw_430) (fun _ h9 => h9) rfl dX4_cornerThatGoes_1 ?_
  refine va_get (D := (dC, dI)) (ci := 4) (v := .ref r) (C := RX5) (T := TX5) (N := 6) hx hb hts inX5 hown hK hP 16 rfl rfl 2 (Nat.le_of_ble_eq_true rfl) (hts _ mw_389) (fun _ h9 => h9) rfl dX4_cornerThatGoes_4 ?_
  refine lv_astore (lv' := [(4, .ref r), (0, .ref lw), (1, .ref sh), (2, .ref fe), (3, .int lim)]) hx hb dX4_cornerThatGoes_7 hl (Nat.le_of_ble_eq_true rfl) rfl (fun ls hl => ?_)
  refine lv_aload hx hb dX4_cornerThatGoes_9 (lv_at hl 0 rfl) ?_
  refine lv_ifnull hx hb dX4_cornerThatGoes_11 ?_
  refine lv_aload hx hb dX4_cornerThatGoes_14 (lv_at hl 0 rfl) ?_
  refine va_get (D := (dC, dI)) (ci := 6) (v := .int rg) (C := RX7) (T := TX7) (N := 4) hx hb hts inX7 hown hK hP 17 rfl rfl 3 (Nat.le_of_ble_eq_true rfl) (hts _ mw_184) (fun _ h9 => h9) rfl dX4_cornerThatGoes_16 ?_
  refine lv_if_eq (tgt := 33) hx hb dX4_cornerThatGoes_19 rfl (fun c_1 => ?_) (fun c_1 => ?_)
  · have c_1 : rg.toInt = 0 := zc_eq rfl rfl c_1
    refine lv_iconst (v := 0) hx hb dX4_cornerThatGoes_33 rfl ?_
    refine lv_istore (lv' := [(5, .int 0), (4, .ref r), (0, .ref lw), (1, .ref sh), (2, .ref fe), (3, .int lim)]) hx hb dX4_cornerThatGoes_34 hl (Nat.le_of_ble_eq_true rfl) rfl (fun ls hl => ?_)
    have hl_36 : ∀ (n9 : Nat) (k : Nat) (AR1 : Nat → Int32) (H : Heap) (locs : List Loc) (ls : Array Slot), n - k < n9 → (k ≤ n) → (∀ j, j < k → ((False ∨ arE n rg j) → AR1 j = -1) ∧ (¬ (False ∨ arE n rg j) → AR1 j = nI (arT n X Y j))) → va_P (dC, dI) classes ([(oc3 lw (.ref dr) (.ref tg) (.ref wy) (.ref br) (.ref bo) (.ref aa)), (oc6 tg (.ref tx) (.ref ty) (nI nt) rt), (oa tx cI 3 TX), (oa ty cI 3 TY), (oc6 wy (.ref wx) (.ref wz) (nI nw) rw), (oa wx cI 2 WX), (oa wz cI 2 WY), (oc6 dr (.ref dx) (.ref dy) (nI nd) rd), (oa dx cI cd P), (oa dy cI cd Q), (oc0 br b1 b2 b3 b4), (oc0 bo b5 b6 b7 b8), (oa aa cI 40 AR1), (oc7 sh (.ref fa) (nI ft)), (oq fa cF 200 FA), (oc1 fe rk9 wd9 tw9 pa9 pb9 (.ref lo) (.ref lk) fm9), (oc4 lk kd9 st9 (.ref r) gb9 jt9 we9), (oc6 r (.ref rx) (.ref ry) (nI n) rg), (oa rx cI cap X), (oa ry cI cap Y)] ++ va_pl L f) H → va_D A ([(oc3 lw (.ref dr) (.ref tg) (.ref wy) (.ref br) (.ref bo) (.ref aa)), (oc6 tg (.ref tx) (.ref ty) (nI nt) rt), (oa tx cI 3 TX), (oa ty cI 3 TY), (oc6 wy (.ref wx) (.ref wz) (nI nw) rw), (oa wx cI 2 WX), (oa wz cI 2 WY), (oc6 dr (.ref dx) (.ref dy) (nI nd) rd), (oa dx cI cd P), (oa dy cI cd Q), (oc0 br b1 b2 b3 b4), (oc0 bo b5 b6 b7 b8), (oa aa cI 40 AR1), (oc7 sh (.ref fa) (nI ft)), (oq fa cF 200 FA), (oc1 fe rk9 wd9 tw9 pa9 pb9 (.ref lo) (.ref lk) fm9), (oc4 lk kd9 st9 (.ref r) gb9 jt9 we9), (oc6 r (.ref rx) (.ref ry) (nI n) rg), (oa rx cI cap X), (oa ry cI cap Y)] ++ va_pl L f) → va_S A s.heap H locs → lv_has ls 7 [(5, .int (nI k)), (4, .ref r), (0, .ref lw), (1, .ref sh), (2, .ref fe), (3, .int lim)] → W p l e ((headSpec (.code yX4_cornerThatGoes cX4_cornerThatGoes 7 (some .int) :: ws0) ({ frames := 5, cells := 0, slots := 0, locals := 131 } : Room)).room) s m ([.ref lw, .ref sh, .ref fe, .int lim] : List Value).toArray below meth c H locs 0 0 Q9 (F0 m 36 ls []) := by
      intro n9
      induction n9 with
      | zero => intro k AR1 H locs ls hm; exact absurd hm (Nat.not_lt_zero _)
      | succ n9 ih_36 =>
        intro k AR1 H locs ls hm hk har hP hD hS hl
        refine lv_iload hx hb dX4_cornerThatGoes_36 (lv_at hl 0 rfl) ?_
        refine lv_aload hx hb dX4_cornerThatGoes_38 (lv_at hl 1 rfl) ?_
        refine va_get (D := (dC, dI)) (ci := 6) (v := .int (nI n)) (C := RX7) (T := TX7) (N := 4) hx hb hts inX7 hown hK hP 17 rfl rfl 2 (Nat.le_of_ble_eq_true rfl) (hts _ mw_176) (fun _ h9 => h9) rfl dX4_cornerThatGoes_40 ?_
        have b9_3 : zlt (k) := show k < 2147483648 by omega
        have b9_4 : zlt (n) := show n < 2147483648 by omega
        refine lv_icmp_ge (tgt := 80) hx hb dX4_cornerThatGoes_43 rfl (fun c_2 => ?_) (fun c_2 => ?_)
        · have c_2 : ((n : Nat) : Int) ≤ ((k : Nat) : Int) := zc_le (nI_toInt b9_4) (nI_toInt b9_3) c_2
          refine lv_iconst (v := 0) hx hb dX4_cornerThatGoes_80 rfl ?_
          refine lv_istore (lv' := [(5, .int 0), (4, .ref r), (0, .ref lw), (1, .ref sh), (2, .ref fe), (3, .int lim)]) hx hb dX4_cornerThatGoes_81 hl (Nat.le_of_ble_eq_true rfl) rfl (fun ls hl => ?_)
          have hl_83 : ∀ (n9 : Nat) (t5 : Nat) (R : Nat → Prop) (AR1 : Nat → Int32) (nt1 : Nat) (TX1 : Nat → Int32) (TY1 : Nat → Int32) (rt1 : Int32) (nw1 : Nat) (WX1 : Nat → Int32) (WY1 : Nat → Int32) (rw1 : Int32) (nd1 : Nat) (P1 : Nat → Int32) (Q1 : Nat → Int32) (rd1 : Int32) (d5 : Int32) (d6 : Int32) (d7 : Int32) (d8 : Int32) (e5 : Int32) (e6 : Int32) (e7 : Int32) (e8 : Int32) (H : Heap) (locs : List Loc) (ls : Array Slot), n - t5 < n9 → (t5 ≤ n) → (arI n X Y rg R AR1) → (∀ j, j < n → R j → ¬ goK ft st tn kd mn cx cy f0 n X Y rg lim j) → (t5 ≤ cntP R n) → va_P (dC, dI) classes ([(oc3 lw (.ref dr) (.ref tg) (.ref wy) (.ref br) (.ref bo) (.ref aa)), (oc6 tg (.ref tx) (.ref ty) (nI nt1) rt1), (oa tx cI 3 TX1), (oa ty cI 3 TY1), (oc6 wy (.ref wx) (.ref wz) (nI nw1) rw1), (oa wx cI 2 WX1), (oa wz cI 2 WY1), (oc6 dr (.ref dx) (.ref dy) (nI nd1) rd1), (oa dx cI cd P1), (oa dy cI cd Q1), (oc0 br d5 d6 d7 d8), (oc0 bo e5 e6 e7 e8), (oa aa cI 40 AR1), (oc7 sh (.ref fa) (nI ft)), (oq fa cF 200 FA), (oc1 fe rk9 wd9 tw9 pa9 pb9 (.ref lo) (.ref lk) fm9), (oc4 lk kd9 st9 (.ref r) gb9 jt9 we9), (oc6 r (.ref rx) (.ref ry) (nI n) rg), (oa rx cI cap X), (oa ry cI cap Y)] ++ va_pl L f) H → va_D A ([(oc3 lw (.ref dr) (.ref tg) (.ref wy) (.ref br) (.ref bo) (.ref aa)), (oc6 tg (.ref tx) (.ref ty) (nI nt1) rt1), (oa tx cI 3 TX1), (oa ty cI 3 TY1), (oc6 wy (.ref wx) (.ref wz) (nI nw1) rw1), (oa wx cI 2 WX1), (oa wz cI 2 WY1), (oc6 dr (.ref dx) (.ref dy) (nI nd1) rd1), (oa dx cI cd P1), (oa dy cI cd Q1), (oc0 br d5 d6 d7 d8), (oc0 bo e5 e6 e7 e8), (oa aa cI 40 AR1), (oc7 sh (.ref fa) (nI ft)), (oq fa cF 200 FA), (oc1 fe rk9 wd9 tw9 pa9 pb9 (.ref lo) (.ref lk) fm9), (oc4 lk kd9 st9 (.ref r) gb9 jt9 we9), (oc6 r (.ref rx) (.ref ry) (nI n) rg), (oa rx cI cap X), (oa ry cI cap Y)] ++ va_pl L f) → va_S A s.heap H locs → lv_has ls 7 [(5, .int (nI t5)), (4, .ref r), (0, .ref lw), (1, .ref sh), (2, .ref fe), (3, .int lim)] → W p l e ((headSpec (.code yX4_cornerThatGoes cX4_cornerThatGoes 7 (some .int) :: ws0) ({ frames := 5, cells := 0, slots := 0, locals := 131 } : Room)).room) s m ([.ref lw, .ref sh, .ref fe, .int lim] : List Value).toArray below meth c H locs 0 0 Q9 (F0 m 83 ls []) := by
            intro n9
            induction n9 with
            | zero => intro t5 R AR1 nt1 TX1 TY1 rt1 nw1 WX1 WY1 rw1 nd1 P1 Q1 rd1 d5 d6 d7 d8 e5 e6 e7 e8 H locs ls hm; exact absurd hm (Nat.not_lt_zero _)
            | succ n9 ih_83 =>
              intro t5 R AR1 nt1 TX1 TY1 rt1 nw1 WX1 WY1 rw1 nd1 P1 Q1 rd1 d5 d6 d7 d8 e5 e6 e7 e8 H locs ls hm ht5 har hR hct hP hD hS hl
              refine lv_iload hx hb dX4_cornerThatGoes_83 (lv_at hl 0 rfl) ?_
              refine lv_aload hx hb dX4_cornerThatGoes_85 (lv_at hl 1 rfl) ?_
              refine va_get (D := (dC, dI)) (ci := 6) (v := .int (nI n)) (C := RX7) (T := TX7) (N := 4) hx hb hts inX7 hown hK hP 17 rfl rfl 2 (Nat.le_of_ble_eq_true rfl) (hts _ mw_176) (fun _ h9 => h9) rfl dX4_cornerThatGoes_87 ?_
              have b9_6 : zlt (t5) := show t5 < 2147483648 by omega
              refine lv_icmp_ge (tgt := 184) hx hb dX4_cornerThatGoes_90 rfl (fun c_5 => ?_) (fun c_5 => ?_)
              · have c_5 : ((n : Nat) : Int) ≤ ((t5 : Nat) : Int) := zc_le (nI_toInt b9_4) (nI_toInt b9_6) c_5
                refine lv_iconst (v := (-1)) hx hb dX4_cornerThatGoes_184 rfl ?_
                have hy9 := go_all (lim := lim) hR (by omega : n ≤ cntP R n)
                obtain ⟨hP9, hD9⟩ := zu_part (cx := [_, _, _, _, _, _, _, _, _, _, _, _, _, _, _, _, _, _, _, _]) hP hD [true, true, true, true, true, true, true, true, true, true, true, true, true, true, true, true, true, true, true, true] rfl rfl
                rw [hQ9]
                exact W.iret (v := (-1)) hx hb hr (fun t ht hW => ⟨⟨_, rfl, (-1), nt1, TX1, TY1, rt1, nw1, WX1, WY1, rw1, nd1, P1, Q1, rd1, d5, d6, d7, d8, e5, e6, e7, e8, AR1, rfl, (hy9), by rw [ht]; exact hP9, hD9⟩, hS.F ht⟩) hS.2.2 dX4_cornerThatGoes_185
              · have c_5 : ((t5 : Nat) : Int) < ((n : Nat) : Int) := zc_nle (nI_toInt b9_4) (nI_toInt b9_6) c_5
                refine lv_aload_n hx hb dX4_cornerThatGoes_93 rfl (lv_at hl 2 rfl) ?_
                refine lv_aload hx hb dX4_cornerThatGoes_94 (lv_at hl 1 rfl) ?_
                refine va_get (D := (dC, dI)) (ci := 6) (v := .int (nI n)) (C := RX7) (T := TX7) (N := 4) hx hb hts inX7 hown hK hP 17 rfl rfl 2 (Nat.le_of_ble_eq_true rfl) (hts _ mw_176) (fun _ h9 => h9) rfl dX4_cornerThatGoes_96 ?_
                refine lv_iload_n hx hb dX4_cornerThatGoes_99 rfl (lv_at hl 5 rfl) ?_
                obtain ⟨hPc, hDc, hFc⟩ := zo_sub (wc := [_, _]) hP hD hS hA [0, 12] rfl rfl
                refine zcalle (va_runV (As := [.int (nI n), .int lim]) (rest := []) ⟨hx, hb, hml, hown, hts⟩ (k_Law_leastArea l dC dI cI cZ cF H.size lw dr tg wy br bo aa n AR1 lim (by first | with_reducible assumption | omega)) (csV_71 hts rfl rfl ⟨Nat.le_of_ble_eq_true rfl, Nat.le_of_ble_eq_true rfl⟩) (zPV2 (q0 := 0) (ci := 3) hPc hDc hK hXN rfl rfl) rfl rfl hl.1 rfl (lv_room (Nat.le_of_ble_eq_true rfl)) dX4_cornerThatGoes_100 ⟨Nat.le_of_ble_eq_true rfl, Nat.le_of_ble_eq_true rfl⟩) hS hFc hFc (fun v9 t H locs ht hB hk1 hS => ?_)
                obtain ⟨zb, rfl, hat, hP1, hD1⟩ := hB
                refine W.eq (g2 := F0 m 103 ls [.int zb]) rfl ?_
                rw [ht] at hP1
                obtain ⟨hP, hD⟩ := znQ (W2 := [_, _, _, _, _, _, _, _, _, _, _, _, _, _, _, _, _, _, _, _]) hP hD hk1 hFc hP1 hD1 [0, 12] zl_34 zl_34 [0, 12] (by decide +kernel) rfl rfl rfl rfl rfl
                clear hk1 hPc hDc hFc hP1 hD1 ht
                refine lv_istore (lv' := [(6, .int zb), (5, .int (nI t5)), (4, .ref r), (0, .ref lw), (1, .ref sh), (2, .ref fe), (3, .int lim)]) hx hb dX4_cornerThatGoes_103 hl (Nat.le_of_ble_eq_true rfl) rfl (fun ls hl => ?_)
                refine lv_iload hx hb dX4_cornerThatGoes_105 (lv_at hl 0 rfl) ?_
                refine lv_iconst (v := (-1)) hx hb dX4_cornerThatGoes_107 rfl ?_
                refine lv_icmp_ne (tgt := 113) hx hb dX4_cornerThatGoes_108 rfl (fun c_7 => ?_) (fun c_7 => ?_)
                · have c_7 : ¬ zb.toInt = (-1) := zc_ne rfl rfl c_7
                  obtain ⟨b9, hz9, hbk, hbF, hbm⟩ := bst_get hat (by omega)
                  have hF9 := (arI_f hp har hbk).mp (Classical.not_not.mp hbF)
                  refine lv_aload_n hx hb dX4_cornerThatGoes_113 rfl (lv_at hl 3 rfl) ?_
                  refine va_get (D := (dC, dI)) (ci := 3) (v := .ref dr) (C := RX4) (T := TX4) (N := 6) hx hb hts inX4 hown hK hP 0 rfl rfl 0 (Nat.le_of_ble_eq_true rfl) (hts _ mw_219) (fun _ h9 => h9) rfl dX4_cornerThatGoes_114 ?_
                  refine lv_aload hx hb dX4_cornerThatGoes_117 (lv_at hl 2 rfl) ?_
                  obtain ⟨hPc, hDc, hFc⟩ := zo_sub (wc := [_, _, _, _, _, _]) hP hD hS hA [7, 8, 9, 17, 18, 19] (by decide +kernel) rfl
                  refine zcall (st1 := []) (va_runV (As := [.ref r]) (rest := []) ⟨hx, hb, hml, hown, hts⟩ (k_Row_copyFrom l dC dI cI cZ cF H.size dr dx dy nd1 cd P1 Q1 rd1 r rx ry n cap X Y rg (by first | with_reducible assumption | omega) (by first | with_reducible assumption | omega) (by first | with_reducible assumption | omega) (by first | with_reducible assumption | omega) (hrg)) (csV_72 hts rfl rfl ⟨Nat.le_of_ble_eq_true rfl, Nat.le_of_ble_eq_true rfl⟩) (zPV2 (q0 := 0) (ci := 6) hPc hDc hK hXN rfl rfl) rfl rfl hl.1 rfl (lv_room (Nat.le_of_ble_eq_true rfl)) dX4_cornerThatGoes_119 ⟨Nat.le_of_ble_eq_true rfl, Nat.le_of_ble_eq_true rfl⟩) hS hFc hFc rfl (fun t H locs ht hB hk1 hS => ?_)
                  obtain ⟨P2, Q2, hcp, hP1, hD1⟩ := hB
                  rw [ht] at hP1
                  obtain ⟨hP, hD⟩ := znQ (W2 := [_, _, _, _, _, _, _, (oc6 dr (.ref dx) (.ref dy) (nI n) rg), (oa dx cI cd P2), (oa dy cI cd Q2), _, _, _, _, _, _, _, _, _, _]) hP hD hk1 hFc hP1 hD1 [7, 8, 9, 17, 18, 19] zl_35 zl_36 [7, 8, 9, 17, 18, 19] (by decide +kernel) rfl rfl rfl rfl rfl
                  clear hk1 hPc hDc hFc hP1 hD1 ht
                  refine lv_aload_n hx hb dX4_cornerThatGoes_122 rfl (lv_at hl 3 rfl) ?_
                  refine va_get (D := (dC, dI)) (ci := 3) (v := .ref dr) (C := RX4) (T := TX4) (N := 6) hx hb hts inX4 hown hK hP 0 rfl rfl 0 (Nat.le_of_ble_eq_true rfl) (hts _ mw_219) (fun _ h9 => h9) rfl dX4_cornerThatGoes_123 ?_
                  refine lv_iload hx hb dX4_cornerThatGoes_126 (lv_at hl 0 rfl) ?_
                  refine zz_i (v := nI b9) (hz9) ?_
                  obtain ⟨hPc, hDc, hFc⟩ := zo_sub (wc := [_, _, _]) hP hD hS hA [7, 8, 9] rfl rfl
                  refine zcall (st1 := []) (va_runV (As := [.int (nI b9)]) (rest := []) ⟨hx, hb, hml, hown, hts⟩ (k_Row_cut l dC dI cI cZ cF H.size dr dx dy n cd P2 Q2 rg b9 (by first | with_reducible assumption | omega) (by first | with_reducible assumption | omega) (by first | with_reducible assumption | omega)) (csV_73 hts rfl rfl ⟨Nat.le_of_ble_eq_true rfl, Nat.le_of_ble_eq_true rfl⟩) (zPV2 (q0 := 0) (ci := 6) hPc hDc hK hXN rfl rfl) rfl rfl hl.1 rfl (lv_room (Nat.le_of_ble_eq_true rfl)) dX4_cornerThatGoes_128 ⟨Nat.le_of_ble_eq_true rfl, Nat.le_of_ble_eq_true rfl⟩) hS hFc hFc rfl (fun t H locs ht hB hk1 hS => ?_)
                  obtain ⟨P3, Q3, hc1, hc2, hP1, hD1⟩ := hB
                  rw [ht] at hP1
                  obtain ⟨hP, hD⟩ := znQ (W2 := [_, _, _, _, _, _, _, (oc6 dr (.ref dx) (.ref dy) (nI (n - 1)) rg), (oa dx cI cd P3), (oa dy cI cd Q3), _, _, _, _, _, _, _, _, _, _]) hP hD hk1 hFc hP1 hD1 [7, 8, 9] zl_37 zl_37 [7, 8, 9] (by decide +kernel) rfl rfl rfl rfl rfl
                  clear hk1 hPc hDc hFc hP1 hD1 ht
                  have hcut := ct_cg hcp hc1 hc2 hbk
                  refine lv_aload_n hx hb dX4_cornerThatGoes_131 rfl (lv_at hl 3 rfl) ?_
                  refine lv_aload_n hx hb dX4_cornerThatGoes_132 rfl (lv_at hl 4 rfl) ?_
                  refine lv_aload_n hx hb dX4_cornerThatGoes_133 rfl (lv_at hl 5 rfl) ?_
                  refine lv_aload hx hb dX4_cornerThatGoes_134 (lv_at hl 2 rfl) ?_
                  refine va_get (D := (dC, dI)) (ci := 6) (v := .ref rx) (C := RX7) (T := TX7) (N := 4) hx hb hts inX7 hown hK hP 17 rfl rfl 0 (Nat.le_of_ble_eq_true rfl) (hts _ mw_163) (fun _ h9 => h9) rfl dX4_cornerThatGoes_136 ?_
                  refine lv_iload hx hb dX4_cornerThatGoes_139 (lv_at hl 0 rfl) ?_
                  refine zz_i (v := nI b9) (hz9) ?_
                  have b9_8 : b9 < cap := by omega
                  have b9_9 : zlt (cap) := show cap < 2147483648 by omega
                  refine z_iald hx hb hK hP 18 0 rfl rfl (e := b9) rfl b9_8 b9_9 dX4_cornerThatGoes_141 ?_
                  refine lv_aload hx hb dX4_cornerThatGoes_142 (lv_at hl 2 rfl) ?_
                  refine va_get (D := (dC, dI)) (ci := 6) (v := .ref ry) (C := RX7) (T := TX7) (N := 4) hx hb hts inX7 hown hK hP 17 rfl rfl 1 (Nat.le_of_ble_eq_true rfl) (hts _ mw_170) (fun _ h9 => h9) rfl dX4_cornerThatGoes_144 ?_
                  refine lv_iload hx hb dX4_cornerThatGoes_147 (lv_at hl 0 rfl) ?_
                  refine zz_i (v := nI b9) (hz9) ?_
                  refine z_iald hx hb hK hP 19 0 rfl rfl (e := b9) rfl b9_8 b9_9 dX4_cornerThatGoes_149 ?_
                  obtain ⟨hPc, hDc, hFc, hI1⟩ := zi_part (cx := [_, _, _, _, _]) hP hD hS hA [0, 13, 14, 15, 16] (by decide +kernel) rfl
                  refine zcall (st1 := [.int (pI (∀ q, q < ft → (q ≠ f0 → lvF ft st tn q → ¬ onF kd mn cx cy q (X b9).toInt (Y b9).toInt)))]) (va_runV (As := [.ref sh, .ref fe, .int (X b9), .int (Y b9)]) (rest := []) ⟨hx, hb, hml, hown, hts⟩ (k_Law_isBare l dC dI cI cZ cF H.size lw dr tg wy br bo aa sh fa ft FA fe lo rk9 wd9 tw9 pa9 pb9 lk kd9 st9 gb9 jt9 we9 r f0 fm9 L f kd st tn mn cx cy (X b9) (Y b9) (by first | with_reducible assumption | omega) (by first | with_reducible assumption | omega) (hFA) (hs1) (by first | with_reducible assumption | assumption) (by first | with_reducible assumption | assumption) (by first | with_reducible assumption | assumption) ((hp b9 hbk).1) ((hp b9 hbk).2)) (csV_74 hts rfl rfl ⟨Nat.le_of_ble_eq_true rfl, Nat.le_of_ble_eq_true rfl⟩) (zPV2 (q0 := 0) (ci := 3) hPc hDc hK hXN rfl rfl) rfl rfl hl.1 rfl (lv_room (Nat.le_of_ble_eq_true rfl)) dX4_cornerThatGoes_150 ⟨Nat.le_of_ble_eq_true rfl, Nat.le_of_ble_eq_true rfl⟩) hS hFc hFc rfl (fun t H locs ht hB hk1 hS => ?_)
                  obtain ⟨hP1, hD1⟩ := hB
                  rw [ht] at hP1
                  replace hP := z0 hP hD hk1 hP1 hI1
                  clear hk1 hPc hDc hFc hP1 hD1 ht hI1
                  refine zz_i (v := pI (bareK ft st tn kd mn cx cy f0 (X b9).toInt (Y b9).toInt)) (rfl) ?_
                  refine lv_if_eq (tgt := 170) hx hb dX4_cornerThatGoes_153 rfl (fun c_10 => ?_) (fun c_10 => ?_)
                  · have c_10 : ¬ (bareK ft st tn kd mn cx cy f0 (X b9).toInt (Y b9).toInt) := zp_0 c_10
                    have hbad : ¬ goK ft st tn kd mn cx cy f0 n X Y rg lim b9 := fun h9 => (by first | exact absurd h9.2.2.1 (by first | with_reducible assumption | assumption) | exact absurd h9.2.2.2 (by first | with_reducible assumption | assumption))
                    refine lv_aload_n hx hb dX4_cornerThatGoes_170 rfl (lv_at hl 3 rfl) ?_
                    refine va_get (D := (dC, dI)) (ci := 3) (v := .ref aa) (C := RX4) (T := TX4) (N := 6) hx hb hts inX4 hown hK hP 0 rfl rfl 5 (Nat.le_of_ble_eq_true rfl) (hts _ mw_225) (fun _ h9 => h9) rfl dX4_cornerThatGoes_171 ?_
                    refine lv_iload hx hb dX4_cornerThatGoes_174 (lv_at hl 0 rfl) ?_
                    refine zz_i (v := nI b9) (hz9) ?_
                    refine lv_iconst (v := (-1)) hx hb dX4_cornerThatGoes_176 rfl ?_
                    have b9_11 : b9 < 40 := by omega
                    refine z_iast hx hb hK hP hD hS 12 0 rfl rfl (e := b9) (x := (-1)) rfl b9_11 (Nat.le_of_ble_eq_true rfl) dX4_cornerThatGoes_177 (fun H locs hP hD hS => ?_)
                    obtain ⟨hP, hD⟩ := zre (W2 := ([_, _, _, _, _, _, _, _, _, _, _, _, (oa aa cI 40 (upd AR1 b9 (-1))), _, _, _, _, _, _, _] ++ va_pl L f)) hP hD rfl
                    refine lv_iinc (v := nI (t5 + 1)) (lv' := [(5, .int (nI (t5 + 1))), (6, .int zb), (4, .ref r), (0, .ref lw), (1, .ref sh), (2, .ref fe), (3, .int lim)]) hx hb dX4_cornerThatGoes_178 hl (k := 1) rfl (nI_add t5 1) (Nat.le_of_ble_eq_true rfl) rfl (fun ls hl => ?_)
                    refine lv_goto (tgt := 83) hx hb dX4_cornerThatGoes_181 rfl ?_
                    exact ih_83 (t5 + 1) (fun j => R j ∨ j = b9) (upd AR1 b9 (-1)) nt1 TX1 TY1 rt1 nw1 WX1 WY1 rw1 (n - 1) P3 Q3 rg d5 d6 d7 d8 e5 e6 e7 e8 H locs ls (by first | with_reducible assumption | omega) (by first | with_reducible assumption | omega) (arI_s har) (fun j hj h => h.elim (fun h9 => hR j hj h9) (fun h9 => by rw [h9]; exact hbad)) (Nat.lt_of_le_of_lt hct (cntP_lt (fun j h => Or.inl h) hbk (Or.inr rfl) hF9.1)) hP hD hS (lv_sub hl [0, 2, 3, 4, 5, 6] rfl)
                  · have c_10 : bareK ft st tn kd mn cx cy f0 (X b9).toInt (Y b9).toInt := zp_1 c_10
                    refine lv_aload_n hx hb dX4_cornerThatGoes_156 rfl (lv_at hl 3 rfl) ?_
                    refine lv_aload_n hx hb dX4_cornerThatGoes_157 rfl (lv_at hl 4 rfl) ?_
                    refine lv_aload_n hx hb dX4_cornerThatGoes_158 rfl (lv_at hl 5 rfl) ?_
                    refine lv_iload hx hb dX4_cornerThatGoes_159 (lv_at hl 0 rfl) ?_
                    refine zz_i (v := nI b9) (hz9) ?_
                    obtain ⟨hPc, hDc, hFc⟩ := zo_part (cx := [_, _, _, _, _, _, _, _, _, _, _, _, _, _, _, _, _, _, _]) hP hD hS hA [0, 1, 2, 3, 4, 5, 6, 7, 8, 9, 10, 11, 13, 14, 15, 16, 17, 18, 19] (by decide +kernel) rfl
                    refine zcall (st1 := [.int (pI (pls (n - 1) P3 Q3 ∧ eFr (n - 1) P3 Q3 rg (prv (n - 1) (gpK (n - 1) b9)) 0 ∧ ∀ q, q < ft → (q ≠ f0 → lvF ft st tn q → (apB (min (min (X b9).toInt (X (prv n b9)).toInt) (X (nxt n b9)).toInt) (min (min (Y b9).toInt (Y (prv n b9)).toInt) (Y (nxt n b9)).toInt) (max (max (X b9).toInt (X (prv n b9)).toInt) (X (nxt n b9)).toInt) (max (max (Y b9).toInt (Y (prv n b9)).toInt) (Y (nxt n b9)).toInt) (nN (mn q)) (cF40 cx q) (cF40 cy q) ∨ (asb n X Y rg (n - 1) P3 Q3 rg (nN (mn q)) (cF40 cx q) (cF40 cy q) (rgK (kd q).toInt) ∧ (¬ ∃ j, j < nN (mn q) ∧ swC n X Y b9 (cF40 cx q j).toInt (cF40 cy q j).toInt))))))]) (va_runV (As := [.ref sh, .ref fe, .int (nI b9)]) (rest := []) ⟨hx, hb, hml, hown, hts⟩ (k_Law_allows_k l dC dI cI cZ cF H.size lw dr tg wy br bo aa tx ty nt1 TX1 TY1 rt1 wx wz nw1 WX1 WY1 rw1 dx dy (n - 1) cd P3 Q3 rg d5 d6 d7 d8 e5 e6 e7 e8 sh fa ft FA fe lo rk9 wd9 tw9 pa9 pb9 lk kd9 st9 gb9 jt9 we9 r rx ry n cap X Y rg f0 b9 fm9 L f kd st tn mn cx cy (by first | with_reducible assumption | omega) (by first | with_reducible assumption | omega) (hFA) (hs1) (by first | with_reducible assumption | assumption) (by first | with_reducible assumption | assumption) (by first | with_reducible assumption | assumption) (by first | with_reducible assumption | omega) (by first | with_reducible assumption | omega) (by first | with_reducible assumption | omega) (by first | with_reducible assumption | omega) (hp) (by first | with_reducible assumption | omega) (by first | with_reducible assumption | omega) (by first | with_reducible assumption | omega) (by first | with_reducible assumption | omega)) (csV_75 hts rfl rfl ⟨Nat.le_of_ble_eq_true rfl, Nat.le_of_ble_eq_true rfl⟩) (zPV2 (q0 := 0) (ci := 3) hPc hDc hK hXN rfl rfl) rfl rfl hl.1 rfl (lv_room (Nat.le_of_ble_eq_true rfl)) dX4_cornerThatGoes_161 ⟨Nat.le_of_ble_eq_true rfl, Nat.le_of_ble_eq_true rfl⟩) hS hFc hFc rfl (fun t H locs ht hB hk1 hS => ?_)
                    refine ex16 hB (fun q_12 q_13 q_14 q_15 q_16 q_17 q_18 q_19 q_20 q_21 q_22 q_23 q_24 q_25 q_26 q_27 hB0 => ?_)
                    clear hB
                    obtain ⟨hP1, hD1⟩ := hB0
                    rw [ht] at hP1
                    obtain ⟨hP, hD⟩ := znP (W2 := [_, (oc6 tg (.ref tx) (.ref ty) (nI q_12) q_15), (oa tx cI 3 q_13), (oa ty cI 3 q_14), (oc6 wy (.ref wx) (.ref wz) (nI q_16) q_19), (oa wx cI 2 q_17), (oa wz cI 2 q_18), _, _, _, (oc0 br q_20 q_21 q_22 q_23), (oc0 bo q_24 q_25 q_26 q_27), _, _, _, _, _, _, _, _]) hP hD hk1 hFc hP1 hD1 zl_38 zl_39 zl_40 zl_38 (by decide +kernel) rfl rfl rfl rfl rfl
                    clear hk1 hPc hDc hFc hP1 hD1 ht
                    refine zz_i (v := pI (alC ft st tn kd mn cx cy f0 n X Y rg (n - 1) (ctF X b9) (ctF Y b9) rg b9)) (zp_iff (alC_cg (by omega) hcut)) ?_
                    refine lv_if_eq (tgt := 170) hx hb dX4_cornerThatGoes_164 rfl (fun c_28 => ?_) (fun c_28 => ?_)
                    · have c_28 : ¬ (alC ft st tn kd mn cx cy f0 n X Y rg (n - 1) (ctF X b9) (ctF Y b9) rg b9) := zp_0 c_28
                      have hbad : ¬ goK ft st tn kd mn cx cy f0 n X Y rg lim b9 := fun h9 => (by first | exact absurd h9.2.2.1 (by first | with_reducible assumption | assumption) | exact absurd h9.2.2.2 (by first | with_reducible assumption | assumption))
                      refine lv_aload_n hx hb dX4_cornerThatGoes_170 rfl (lv_at hl 3 rfl) ?_
                      refine va_get (D := (dC, dI)) (ci := 3) (v := .ref aa) (C := RX4) (T := TX4) (N := 6) hx hb hts inX4 hown hK hP 0 rfl rfl 5 (Nat.le_of_ble_eq_true rfl) (hts _ mw_225) (fun _ h9 => h9) rfl dX4_cornerThatGoes_171 ?_
                      refine lv_iload hx hb dX4_cornerThatGoes_174 (lv_at hl 0 rfl) ?_
                      refine zz_i (v := nI b9) (hz9) ?_
                      refine lv_iconst (v := (-1)) hx hb dX4_cornerThatGoes_176 rfl ?_
                      have b9_29 : b9 < 40 := by omega
                      refine z_iast hx hb hK hP hD hS 12 0 rfl rfl (e := b9) (x := (-1)) rfl b9_29 (Nat.le_of_ble_eq_true rfl) dX4_cornerThatGoes_177 (fun H locs hP hD hS => ?_)
                      obtain ⟨hP, hD⟩ := zre (W2 := ([_, _, _, _, _, _, _, _, _, _, _, _, (oa aa cI 40 (upd AR1 b9 (-1))), _, _, _, _, _, _, _] ++ va_pl L f)) hP hD rfl
                      refine lv_iinc (v := nI (t5 + 1)) (lv' := [(5, .int (nI (t5 + 1))), (6, .int zb), (4, .ref r), (0, .ref lw), (1, .ref sh), (2, .ref fe), (3, .int lim)]) hx hb dX4_cornerThatGoes_178 hl (k := 1) rfl (nI_add t5 1) (Nat.le_of_ble_eq_true rfl) rfl (fun ls hl => ?_)
                      refine lv_goto (tgt := 83) hx hb dX4_cornerThatGoes_181 rfl ?_
                      exact ih_83 (t5 + 1) (fun j => R j ∨ j = b9) (upd AR1 b9 (-1)) q_12 q_13 q_14 q_15 q_16 q_17 q_18 q_19 (n - 1) P3 Q3 rg q_20 q_21 q_22 q_23 q_24 q_25 q_26 q_27 H locs ls (by first | with_reducible assumption | omega) (by first | with_reducible assumption | omega) (arI_s har) (fun j hj h => h.elim (fun h9 => hR j hj h9) (fun h9 => by rw [h9]; exact hbad)) (Nat.lt_of_le_of_lt hct (cntP_lt (fun j h => Or.inl h) hbk (Or.inr rfl) hF9.1)) hP hD hS (lv_sub hl [0, 2, 3, 4, 5, 6] rfl)
                    · have c_28 : alC ft st tn kd mn cx cy f0 n X Y rg (n - 1) (ctF X b9) (ctF Y b9) rg b9 := zp_1 c_28
                      refine lv_iload hx hb dX4_cornerThatGoes_167 (lv_at hl 0 rfl) ?_
                      have hy9 := go_yes hp har hR hbk hF9 hbm (by first | with_reducible assumption | assumption) (by first | with_reducible assumption | assumption)
                      rw [← hz9] at hy9
                      obtain ⟨hP9, hD9⟩ := zu_part (cx := [_, _, _, _, _, _, _, _, _, _, _, _, _, _, _, _, _, _, _, _]) hP hD [true, true, true, true, true, true, true, true, true, true, true, true, true, true, true, true, true, true, true, true] rfl rfl
                      rw [hQ9]
                      exact W.iret (v := zb) hx hb hr (fun t ht hW => ⟨⟨_, rfl, zb, q_12, q_13, q_14, q_15, q_16, q_17, q_18, q_19, (n - 1), P3, Q3, rg, q_20, q_21, q_22, q_23, q_24, q_25, q_26, q_27, AR1, rfl, (hy9), by rw [ht]; exact hP9, hD9⟩, hS.F ht⟩) hS.2.2 dX4_cornerThatGoes_169
                · have c_7 : zb.toInt = (-1) := zc_eq rfl rfl c_7
                  refine lv_iconst (v := (-1)) hx hb dX4_cornerThatGoes_111 rfl ?_
                  have hy9 := go_no (lim := lim) hp hn2.2 har hR hat (by omega)
                  obtain ⟨hP9, hD9⟩ := zu_part (cx := [_, _, _, _, _, _, _, _, _, _, _, _, _, _, _, _, _, _, _, _]) hP hD [true, true, true, true, true, true, true, true, true, true, true, true, true, true, true, true, true, true, true, true] rfl rfl
                  rw [hQ9]
                  exact W.iret (v := (-1)) hx hb hr (fun t ht hW => ⟨⟨_, rfl, (-1), nt1, TX1, TY1, rt1, nw1, WX1, WY1, rw1, nd1, P1, Q1, rd1, d5, d6, d7, d8, e5, e6, e7, e8, AR1, rfl, (hy9), by rw [ht]; exact hP9, hD9⟩, hS.F ht⟩) hS.2.2 dX4_cornerThatGoes_112
          exact hl_83 _ 0 (fun _ => False) AR1 nt TX TY rt nw WX WY rw nd P Q rd b1 b2 b3 b4 b5 b6 b7 b8 H locs ls (Nat.lt_succ_self _) (by first | with_reducible assumption | omega) (fun j hj => har j (by first | with_reducible assumption | omega)) (fun j hj h => h.elim) (Nat.zero_le _) hP hD hS (lv_sub hl [0, 1, 2, 3, 4, 5] rfl)
        · have c_2 : ((k : Nat) : Int) < ((n : Nat) : Int) := zc_nle (nI_toInt b9_4) (nI_toInt b9_3) c_2
          refine lv_aload_n hx hb dX4_cornerThatGoes_46 rfl (lv_at hl 2 rfl) ?_
          refine va_get (D := (dC, dI)) (ci := 3) (v := .ref aa) (C := RX4) (T := TX4) (N := 6) hx hb hts inX4 hown hK hP 0 rfl rfl 5 (Nat.le_of_ble_eq_true rfl) (hts _ mw_225) (fun _ h9 => h9) rfl dX4_cornerThatGoes_47 ?_
          refine lv_iload hx hb dX4_cornerThatGoes_50 (lv_at hl 0 rfl) ?_
          refine lv_aload hx hb dX4_cornerThatGoes_52 (lv_at hl 1 rfl) ?_
          refine lv_iload hx hb dX4_cornerThatGoes_54 (lv_at hl 0 rfl) ?_
          obtain ⟨hPc, hDc, hFc, hI1⟩ := zi_sub (wc := [_, _, _]) hP hD hS hA [17, 18, 19] rfl rfl
          refine zcall (st1 := [.int (pI (rg.toInt = 0 ∧ (k = 0 ∨ k = n - 1))), .int (nI k), .ref aa]) (va_runV (As := [.int (nI k)]) (rest := [.int (nI k), .ref aa]) ⟨hx, hb, hml, hown, hts⟩ (k_Row_isEnd l dC dI cI cZ cF H.size r rx ry n cap X Y rg k (by first | with_reducible assumption | omega) (by first | with_reducible assumption | omega) (by first | with_reducible assumption | omega)) (csV_76 hts rfl rfl ⟨Nat.le_of_ble_eq_true rfl, Nat.le_of_ble_eq_true rfl⟩) (zPV2 (q0 := 0) (ci := 6) hPc hDc hK hXN rfl rfl) rfl rfl hl.1 rfl (lv_room (Nat.le_of_ble_eq_true rfl)) dX4_cornerThatGoes_56 ⟨Nat.le_of_ble_eq_true rfl, Nat.le_of_ble_eq_true rfl⟩) hS hFc hFc rfl (fun t H locs ht hB hk1 hS => ?_)
          obtain ⟨hP1, hD1⟩ := hB
          rw [ht] at hP1
          replace hP := z0 hP hD hk1 hP1 hI1
          clear hk1 hPc hDc hFc hP1 hD1 ht hI1
          refine zz_i (v := pI (arE n rg k)) (rfl) ?_
          refine lv_if_eq (tgt := 66) hx hb dX4_cornerThatGoes_59 rfl (fun c_30 => ?_) (fun c_30 => ?_)
          · have c_30 : ¬ (arE n rg k) := zp_0 c_30
            refine lv_aload hx hb dX4_cornerThatGoes_66 (lv_at hl 1 rfl) ?_
            refine lv_iload hx hb dX4_cornerThatGoes_68 (lv_at hl 0 rfl) ?_
            obtain ⟨hPc, hDc, hFc, hI1⟩ := zi_sub (wc := [_, _, _]) hP hD hS hA [17, 18, 19] rfl rfl
            refine zcall (st1 := [.int (nI (Int.natAbs (eCr n X Y (prv n k) (X (nxt n k)).toInt (Y (nxt n k)).toInt))), .int (nI k), .ref aa]) (va_runV (As := [.int (nI k)]) (rest := [.int (nI k), .ref aa]) ⟨hx, hb, hml, hown, hts⟩ (k_Row_doubleTriangle l dC dI cI cZ cF H.size r rx ry n cap X Y rg k (by first | with_reducible assumption | omega) (by first | with_reducible assumption | omega) (by first | with_reducible assumption | assumption) (by first | with_reducible assumption | omega)) (csV_77 hts rfl rfl ⟨Nat.le_of_ble_eq_true rfl, Nat.le_of_ble_eq_true rfl⟩) (zPV2 (q0 := 0) (ci := 6) hPc hDc hK hXN rfl rfl) rfl rfl hl.1 rfl (lv_room (Nat.le_of_ble_eq_true rfl)) dX4_cornerThatGoes_70 ⟨Nat.le_of_ble_eq_true rfl, Nat.le_of_ble_eq_true rfl⟩) hS hFc hFc rfl (fun t H locs ht hB hk1 hS => ?_)
            obtain ⟨hP1, hD1⟩ := hB
            rw [ht] at hP1
            replace hP := z0 hP hD hk1 hP1 hI1
            clear hk1 hPc hDc hFc hP1 hD1 ht hI1
            have b9_31 : k < 40 := by omega
            refine z_iast hx hb hK hP hD hS 12 0 rfl rfl (e := k) (x := nI (Int.natAbs (eCr n X Y (prv n k) (X (nxt n k)).toInt (Y (nxt n k)).toInt))) rfl b9_31 (Nat.le_of_ble_eq_true rfl) dX4_cornerThatGoes_73 (fun H locs hP hD hS => ?_)
            obtain ⟨hP, hD⟩ := zre (W2 := ([_, _, _, _, _, _, _, _, _, _, _, _, (oa aa cI 40 (upd AR1 k (nI (Int.natAbs (eCr n X Y (prv n k) (X (nxt n k)).toInt (Y (nxt n k)).toInt))))), _, _, _, _, _, _, _] ++ va_pl L f)) hP hD rfl
            refine lv_iinc (v := nI (k + 1)) (lv' := [(5, .int (nI (k + 1))), (4, .ref r), (0, .ref lw), (1, .ref sh), (2, .ref fe), (3, .int lim)]) hx hb dX4_cornerThatGoes_74 hl (k := 0) rfl (nI_add k 1) (Nat.le_of_ble_eq_true rfl) rfl (fun ls hl => ?_)
            refine lv_goto (tgt := 36) hx hb dX4_cornerThatGoes_77 rfl ?_
            exact ih_36 (k + 1) (upd AR1 k (nI (Int.natAbs (eCr n X Y (prv n k) (X (nxt n k)).toInt (Y (nxt n k)).toInt)))) H locs ls (by first | with_reducible assumption | omega) (by first | with_reducible assumption | omega) (by intro j hj; rcases Nat.lt_or_ge j k with h | h; (rw [show upd AR1 k _ j = AR1 j from if_neg (by first | with_reducible assumption | omega)]; exact har j h); (rw [show j = k by omega, up_at]; first | exact ⟨fun _ => rfl, fun h9 => absurd (Or.inr (by first | with_reducible assumption | assumption)) h9⟩ | exact ⟨fun h9 => absurd (h9.resolve_left id) (by first | with_reducible assumption | assumption), fun _ => rfl⟩)) hP hD hS (lv_sub hl [0, 1, 2, 3, 4, 5] rfl)
          · have c_30 : arE n rg k := zp_1 c_30
            refine lv_iconst (v := (-1)) hx hb dX4_cornerThatGoes_62 rfl ?_
            refine lv_goto (tgt := 73) hx hb dX4_cornerThatGoes_63 rfl ?_
            have b9_32 : k < 40 := by omega
            refine z_iast hx hb hK hP hD hS 12 0 rfl rfl (e := k) (x := (-1)) rfl b9_32 (Nat.le_of_ble_eq_true rfl) dX4_cornerThatGoes_73 (fun H locs hP hD hS => ?_)
            obtain ⟨hP, hD⟩ := zre (W2 := ([_, _, _, _, _, _, _, _, _, _, _, _, (oa aa cI 40 (upd AR1 k (-1))), _, _, _, _, _, _, _] ++ va_pl L f)) hP hD rfl
            refine lv_iinc (v := nI (k + 1)) (lv' := [(5, .int (nI (k + 1))), (4, .ref r), (0, .ref lw), (1, .ref sh), (2, .ref fe), (3, .int lim)]) hx hb dX4_cornerThatGoes_74 hl (k := 0) rfl (nI_add k 1) (Nat.le_of_ble_eq_true rfl) rfl (fun ls hl => ?_)
            refine lv_goto (tgt := 36) hx hb dX4_cornerThatGoes_77 rfl ?_
            exact ih_36 (k + 1) (upd AR1 k (-1)) H locs ls (by first | with_reducible assumption | omega) (by first | with_reducible assumption | omega) (by intro j hj; rcases Nat.lt_or_ge j k with h | h; (rw [show upd AR1 k _ j = AR1 j from if_neg (by first | with_reducible assumption | omega)]; exact har j h); (rw [show j = k by omega, up_at]; first | exact ⟨fun _ => rfl, fun h9 => absurd (Or.inr (by first | with_reducible assumption | assumption)) h9⟩ | exact ⟨fun h9 => absurd (h9.resolve_left id) (by first | with_reducible assumption | assumption), fun _ => rfl⟩)) hP hD hS (lv_sub hl [0, 1, 2, 3, 4, 5] rfl)
    exact hl_36 _ 0 AR s.heap [] ls (Nat.lt_succ_self _) (by first | with_reducible assumption | omega) (by intro j hj; omega) hP hD hS (lv_sub hl [0, 1, 2, 3, 4, 5] rfl)
  · have c_1 : ¬ rg.toInt = 0 := zc_ne rfl rfl c_1
    refine lv_aload hx hb dX4_cornerThatGoes_22 (lv_at hl 0 rfl) ?_
    refine va_get (D := (dC, dI)) (ci := 6) (v := .int (nI n)) (C := RX7) (T := TX7) (N := 4) hx hb hts inX7 hown hK hP 17 rfl rfl 2 (Nat.le_of_ble_eq_true rfl) (hts _ mw_176) (fun _ h9 => h9) rfl dX4_cornerThatGoes_24 ?_
    refine lv_iconst (v := 3) hx hb dX4_cornerThatGoes_27 rfl ?_
    have b9_34 : zlt (n) := show n < 2147483648 by omega
    refine lv_icmp_gt (tgt := 33) hx hb dX4_cornerThatGoes_28 rfl (fun c_33 => ?_) (fun c_33 => ?_)
    · have c_33 : 3 < ((n : Nat) : Int) := zc_lt rfl (nI_toInt b9_34) c_33
      refine lv_iconst (v := 0) hx hb dX4_cornerThatGoes_33 rfl ?_
      refine lv_istore (lv' := [(5, .int 0), (4, .ref r), (0, .ref lw), (1, .ref sh), (2, .ref fe), (3, .int lim)]) hx hb dX4_cornerThatGoes_34 hl (Nat.le_of_ble_eq_true rfl) rfl (fun ls hl => ?_)
      have hl_36 : ∀ (n9 : Nat) (k : Nat) (AR1 : Nat → Int32) (H : Heap) (locs : List Loc) (ls : Array Slot), n - k < n9 → (k ≤ n) → (∀ j, j < k → ((False ∨ arE n rg j) → AR1 j = -1) ∧ (¬ (False ∨ arE n rg j) → AR1 j = nI (arT n X Y j))) → va_P (dC, dI) classes ([(oc3 lw (.ref dr) (.ref tg) (.ref wy) (.ref br) (.ref bo) (.ref aa)), (oc6 tg (.ref tx) (.ref ty) (nI nt) rt), (oa tx cI 3 TX), (oa ty cI 3 TY), (oc6 wy (.ref wx) (.ref wz) (nI nw) rw), (oa wx cI 2 WX), (oa wz cI 2 WY), (oc6 dr (.ref dx) (.ref dy) (nI nd) rd), (oa dx cI cd P), (oa dy cI cd Q), (oc0 br b1 b2 b3 b4), (oc0 bo b5 b6 b7 b8), (oa aa cI 40 AR1), (oc7 sh (.ref fa) (nI ft)), (oq fa cF 200 FA), (oc1 fe rk9 wd9 tw9 pa9 pb9 (.ref lo) (.ref lk) fm9), (oc4 lk kd9 st9 (.ref r) gb9 jt9 we9), (oc6 r (.ref rx) (.ref ry) (nI n) rg), (oa rx cI cap X), (oa ry cI cap Y)] ++ va_pl L f) H → va_D A ([(oc3 lw (.ref dr) (.ref tg) (.ref wy) (.ref br) (.ref bo) (.ref aa)), (oc6 tg (.ref tx) (.ref ty) (nI nt) rt), (oa tx cI 3 TX), (oa ty cI 3 TY), (oc6 wy (.ref wx) (.ref wz) (nI nw) rw), (oa wx cI 2 WX), (oa wz cI 2 WY), (oc6 dr (.ref dx) (.ref dy) (nI nd) rd), (oa dx cI cd P), (oa dy cI cd Q), (oc0 br b1 b2 b3 b4), (oc0 bo b5 b6 b7 b8), (oa aa cI 40 AR1), (oc7 sh (.ref fa) (nI ft)), (oq fa cF 200 FA), (oc1 fe rk9 wd9 tw9 pa9 pb9 (.ref lo) (.ref lk) fm9), (oc4 lk kd9 st9 (.ref r) gb9 jt9 we9), (oc6 r (.ref rx) (.ref ry) (nI n) rg), (oa rx cI cap X), (oa ry cI cap Y)] ++ va_pl L f) → va_S A s.heap H locs → lv_has ls 7 [(5, .int (nI k)), (4, .ref r), (0, .ref lw), (1, .ref sh), (2, .ref fe), (3, .int lim)] → W p l e ((headSpec (.code yX4_cornerThatGoes cX4_cornerThatGoes 7 (some .int) :: ws0) ({ frames := 5, cells := 0, slots := 0, locals := 131 } : Room)).room) s m ([.ref lw, .ref sh, .ref fe, .int lim] : List Value).toArray below meth c H locs 0 0 Q9 (F0 m 36 ls []) := by
        intro n9
        induction n9 with
        | zero => intro k AR1 H locs ls hm; exact absurd hm (Nat.not_lt_zero _)
        | succ n9 ih_36 =>
          intro k AR1 H locs ls hm hk har hP hD hS hl
          refine lv_iload hx hb dX4_cornerThatGoes_36 (lv_at hl 0 rfl) ?_
          refine lv_aload hx hb dX4_cornerThatGoes_38 (lv_at hl 1 rfl) ?_
          refine va_get (D := (dC, dI)) (ci := 6) (v := .int (nI n)) (C := RX7) (T := TX7) (N := 4) hx hb hts inX7 hown hK hP 17 rfl rfl 2 (Nat.le_of_ble_eq_true rfl) (hts _ mw_176) (fun _ h9 => h9) rfl dX4_cornerThatGoes_40 ?_
          have b9_36 : zlt (k) := show k < 2147483648 by omega
          refine lv_icmp_ge (tgt := 80) hx hb dX4_cornerThatGoes_43 rfl (fun c_35 => ?_) (fun c_35 => ?_)
          · have c_35 : ((n : Nat) : Int) ≤ ((k : Nat) : Int) := zc_le (nI_toInt b9_34) (nI_toInt b9_36) c_35
            refine lv_iconst (v := 0) hx hb dX4_cornerThatGoes_80 rfl ?_
            refine lv_istore (lv' := [(5, .int 0), (4, .ref r), (0, .ref lw), (1, .ref sh), (2, .ref fe), (3, .int lim)]) hx hb dX4_cornerThatGoes_81 hl (Nat.le_of_ble_eq_true rfl) rfl (fun ls hl => ?_)
            have hl_83 : ∀ (n9 : Nat) (t5 : Nat) (R : Nat → Prop) (AR1 : Nat → Int32) (nt1 : Nat) (TX1 : Nat → Int32) (TY1 : Nat → Int32) (rt1 : Int32) (nw1 : Nat) (WX1 : Nat → Int32) (WY1 : Nat → Int32) (rw1 : Int32) (nd1 : Nat) (P1 : Nat → Int32) (Q1 : Nat → Int32) (rd1 : Int32) (d5 : Int32) (d6 : Int32) (d7 : Int32) (d8 : Int32) (e5 : Int32) (e6 : Int32) (e7 : Int32) (e8 : Int32) (H : Heap) (locs : List Loc) (ls : Array Slot), n - t5 < n9 → (t5 ≤ n) → (arI n X Y rg R AR1) → (∀ j, j < n → R j → ¬ goK ft st tn kd mn cx cy f0 n X Y rg lim j) → (t5 ≤ cntP R n) → va_P (dC, dI) classes ([(oc3 lw (.ref dr) (.ref tg) (.ref wy) (.ref br) (.ref bo) (.ref aa)), (oc6 tg (.ref tx) (.ref ty) (nI nt1) rt1), (oa tx cI 3 TX1), (oa ty cI 3 TY1), (oc6 wy (.ref wx) (.ref wz) (nI nw1) rw1), (oa wx cI 2 WX1), (oa wz cI 2 WY1), (oc6 dr (.ref dx) (.ref dy) (nI nd1) rd1), (oa dx cI cd P1), (oa dy cI cd Q1), (oc0 br d5 d6 d7 d8), (oc0 bo e5 e6 e7 e8), (oa aa cI 40 AR1), (oc7 sh (.ref fa) (nI ft)), (oq fa cF 200 FA), (oc1 fe rk9 wd9 tw9 pa9 pb9 (.ref lo) (.ref lk) fm9), (oc4 lk kd9 st9 (.ref r) gb9 jt9 we9), (oc6 r (.ref rx) (.ref ry) (nI n) rg), (oa rx cI cap X), (oa ry cI cap Y)] ++ va_pl L f) H → va_D A ([(oc3 lw (.ref dr) (.ref tg) (.ref wy) (.ref br) (.ref bo) (.ref aa)), (oc6 tg (.ref tx) (.ref ty) (nI nt1) rt1), (oa tx cI 3 TX1), (oa ty cI 3 TY1), (oc6 wy (.ref wx) (.ref wz) (nI nw1) rw1), (oa wx cI 2 WX1), (oa wz cI 2 WY1), (oc6 dr (.ref dx) (.ref dy) (nI nd1) rd1), (oa dx cI cd P1), (oa dy cI cd Q1), (oc0 br d5 d6 d7 d8), (oc0 bo e5 e6 e7 e8), (oa aa cI 40 AR1), (oc7 sh (.ref fa) (nI ft)), (oq fa cF 200 FA), (oc1 fe rk9 wd9 tw9 pa9 pb9 (.ref lo) (.ref lk) fm9), (oc4 lk kd9 st9 (.ref r) gb9 jt9 we9), (oc6 r (.ref rx) (.ref ry) (nI n) rg), (oa rx cI cap X), (oa ry cI cap Y)] ++ va_pl L f) → va_S A s.heap H locs → lv_has ls 7 [(5, .int (nI t5)), (4, .ref r), (0, .ref lw), (1, .ref sh), (2, .ref fe), (3, .int lim)] → W p l e ((headSpec (.code yX4_cornerThatGoes cX4_cornerThatGoes 7 (some .int) :: ws0) ({ frames := 5, cells := 0, slots := 0, locals := 131 } : Room)).room) s m ([.ref lw, .ref sh, .ref fe, .int lim] : List Value).toArray below meth c H locs 0 0 Q9 (F0 m 83 ls []) := by
              intro n9
              induction n9 with
              | zero => intro t5 R AR1 nt1 TX1 TY1 rt1 nw1 WX1 WY1 rw1 nd1 P1 Q1 rd1 d5 d6 d7 d8 e5 e6 e7 e8 H locs ls hm; exact absurd hm (Nat.not_lt_zero _)
              | succ n9 ih_83 =>
                intro t5 R AR1 nt1 TX1 TY1 rt1 nw1 WX1 WY1 rw1 nd1 P1 Q1 rd1 d5 d6 d7 d8 e5 e6 e7 e8 H locs ls hm ht5 har hR hct hP hD hS hl
                refine lv_iload hx hb dX4_cornerThatGoes_83 (lv_at hl 0 rfl) ?_
                refine lv_aload hx hb dX4_cornerThatGoes_85 (lv_at hl 1 rfl) ?_
                refine va_get (D := (dC, dI)) (ci := 6) (v := .int (nI n)) (C := RX7) (T := TX7) (N := 4) hx hb hts inX7 hown hK hP 17 rfl rfl 2 (Nat.le_of_ble_eq_true rfl) (hts _ mw_176) (fun _ h9 => h9) rfl dX4_cornerThatGoes_87 ?_
                have b9_38 : zlt (t5) := show t5 < 2147483648 by omega
                refine lv_icmp_ge (tgt := 184) hx hb dX4_cornerThatGoes_90 rfl (fun c_37 => ?_) (fun c_37 => ?_)
                · have c_37 : ((n : Nat) : Int) ≤ ((t5 : Nat) : Int) := zc_le (nI_toInt b9_34) (nI_toInt b9_38) c_37
                  refine lv_iconst (v := (-1)) hx hb dX4_cornerThatGoes_184 rfl ?_
                  have hy9 := go_all (lim := lim) hR (by omega : n ≤ cntP R n)
                  obtain ⟨hP9, hD9⟩ := zu_part (cx := [_, _, _, _, _, _, _, _, _, _, _, _, _, _, _, _, _, _, _, _]) hP hD [true, true, true, true, true, true, true, true, true, true, true, true, true, true, true, true, true, true, true, true] rfl rfl
                  rw [hQ9]
                  exact W.iret (v := (-1)) hx hb hr (fun t ht hW => ⟨⟨_, rfl, (-1), nt1, TX1, TY1, rt1, nw1, WX1, WY1, rw1, nd1, P1, Q1, rd1, d5, d6, d7, d8, e5, e6, e7, e8, AR1, rfl, (hy9), by rw [ht]; exact hP9, hD9⟩, hS.F ht⟩) hS.2.2 dX4_cornerThatGoes_185
                · have c_37 : ((t5 : Nat) : Int) < ((n : Nat) : Int) := zc_nle (nI_toInt b9_34) (nI_toInt b9_38) c_37
                  refine lv_aload_n hx hb dX4_cornerThatGoes_93 rfl (lv_at hl 2 rfl) ?_
                  refine lv_aload hx hb dX4_cornerThatGoes_94 (lv_at hl 1 rfl) ?_
                  refine va_get (D := (dC, dI)) (ci := 6) (v := .int (nI n)) (C := RX7) (T := TX7) (N := 4) hx hb hts inX7 hown hK hP 17 rfl rfl 2 (Nat.le_of_ble_eq_true rfl) (hts _ mw_176) (fun _ h9 => h9) rfl dX4_cornerThatGoes_96 ?_
                  refine lv_iload_n hx hb dX4_cornerThatGoes_99 rfl (lv_at hl 5 rfl) ?_
                  obtain ⟨hPc, hDc, hFc⟩ := zo_sub (wc := [_, _]) hP hD hS hA [0, 12] rfl rfl
                  refine zcalle (va_runV (As := [.int (nI n), .int lim]) (rest := []) ⟨hx, hb, hml, hown, hts⟩ (k_Law_leastArea l dC dI cI cZ cF H.size lw dr tg wy br bo aa n AR1 lim (by first | with_reducible assumption | omega)) (csV_71 hts rfl rfl ⟨Nat.le_of_ble_eq_true rfl, Nat.le_of_ble_eq_true rfl⟩) (zPV2 (q0 := 0) (ci := 3) hPc hDc hK hXN rfl rfl) rfl rfl hl.1 rfl (lv_room (Nat.le_of_ble_eq_true rfl)) dX4_cornerThatGoes_100 ⟨Nat.le_of_ble_eq_true rfl, Nat.le_of_ble_eq_true rfl⟩) hS hFc hFc (fun v9 t H locs ht hB hk1 hS => ?_)
                  obtain ⟨zb, rfl, hat, hP1, hD1⟩ := hB
                  refine W.eq (g2 := F0 m 103 ls [.int zb]) rfl ?_
                  rw [ht] at hP1
                  obtain ⟨hP, hD⟩ := znQ (W2 := [_, _, _, _, _, _, _, _, _, _, _, _, _, _, _, _, _, _, _, _]) hP hD hk1 hFc hP1 hD1 [0, 12] zl_34 zl_34 [0, 12] (by decide +kernel) rfl rfl rfl rfl rfl
                  clear hk1 hPc hDc hFc hP1 hD1 ht
                  refine lv_istore (lv' := [(6, .int zb), (5, .int (nI t5)), (4, .ref r), (0, .ref lw), (1, .ref sh), (2, .ref fe), (3, .int lim)]) hx hb dX4_cornerThatGoes_103 hl (Nat.le_of_ble_eq_true rfl) rfl (fun ls hl => ?_)
                  refine lv_iload hx hb dX4_cornerThatGoes_105 (lv_at hl 0 rfl) ?_
                  refine lv_iconst (v := (-1)) hx hb dX4_cornerThatGoes_107 rfl ?_
                  refine lv_icmp_ne (tgt := 113) hx hb dX4_cornerThatGoes_108 rfl (fun c_39 => ?_) (fun c_39 => ?_)
                  · have c_39 : ¬ zb.toInt = (-1) := zc_ne rfl rfl c_39
                    obtain ⟨b9, hz9, hbk, hbF, hbm⟩ := bst_get hat (by omega)
                    have hF9 := (arI_f hp har hbk).mp (Classical.not_not.mp hbF)
                    refine lv_aload_n hx hb dX4_cornerThatGoes_113 rfl (lv_at hl 3 rfl) ?_
                    refine va_get (D := (dC, dI)) (ci := 3) (v := .ref dr) (C := RX4) (T := TX4) (N := 6) hx hb hts inX4 hown hK hP 0 rfl rfl 0 (Nat.le_of_ble_eq_true rfl) (hts _ mw_219) (fun _ h9 => h9) rfl dX4_cornerThatGoes_114 ?_
                    refine lv_aload hx hb dX4_cornerThatGoes_117 (lv_at hl 2 rfl) ?_
                    obtain ⟨hPc, hDc, hFc⟩ := zo_sub (wc := [_, _, _, _, _, _]) hP hD hS hA [7, 8, 9, 17, 18, 19] (by decide +kernel) rfl
                    refine zcall (st1 := []) (va_runV (As := [.ref r]) (rest := []) ⟨hx, hb, hml, hown, hts⟩ (k_Row_copyFrom l dC dI cI cZ cF H.size dr dx dy nd1 cd P1 Q1 rd1 r rx ry n cap X Y rg (by first | with_reducible assumption | omega) (by first | with_reducible assumption | omega) (by first | with_reducible assumption | omega) (by first | with_reducible assumption | omega) (hrg)) (csV_72 hts rfl rfl ⟨Nat.le_of_ble_eq_true rfl, Nat.le_of_ble_eq_true rfl⟩) (zPV2 (q0 := 0) (ci := 6) hPc hDc hK hXN rfl rfl) rfl rfl hl.1 rfl (lv_room (Nat.le_of_ble_eq_true rfl)) dX4_cornerThatGoes_119 ⟨Nat.le_of_ble_eq_true rfl, Nat.le_of_ble_eq_true rfl⟩) hS hFc hFc rfl (fun t H locs ht hB hk1 hS => ?_)
                    obtain ⟨P2, Q2, hcp, hP1, hD1⟩ := hB
                    rw [ht] at hP1
                    obtain ⟨hP, hD⟩ := znQ (W2 := [_, _, _, _, _, _, _, (oc6 dr (.ref dx) (.ref dy) (nI n) rg), (oa dx cI cd P2), (oa dy cI cd Q2), _, _, _, _, _, _, _, _, _, _]) hP hD hk1 hFc hP1 hD1 [7, 8, 9, 17, 18, 19] zl_35 zl_36 [7, 8, 9, 17, 18, 19] (by decide +kernel) rfl rfl rfl rfl rfl
                    clear hk1 hPc hDc hFc hP1 hD1 ht
                    refine lv_aload_n hx hb dX4_cornerThatGoes_122 rfl (lv_at hl 3 rfl) ?_
                    refine va_get (D := (dC, dI)) (ci := 3) (v := .ref dr) (C := RX4) (T := TX4) (N := 6) hx hb hts inX4 hown hK hP 0 rfl rfl 0 (Nat.le_of_ble_eq_true rfl) (hts _ mw_219) (fun _ h9 => h9) rfl dX4_cornerThatGoes_123 ?_
                    refine lv_iload hx hb dX4_cornerThatGoes_126 (lv_at hl 0 rfl) ?_
                    refine zz_i (v := nI b9) (hz9) ?_
                    obtain ⟨hPc, hDc, hFc⟩ := zo_sub (wc := [_, _, _]) hP hD hS hA [7, 8, 9] rfl rfl
                    refine zcall (st1 := []) (va_runV (As := [.int (nI b9)]) (rest := []) ⟨hx, hb, hml, hown, hts⟩ (k_Row_cut l dC dI cI cZ cF H.size dr dx dy n cd P2 Q2 rg b9 (by first | with_reducible assumption | omega) (by first | with_reducible assumption | omega) (by first | with_reducible assumption | omega)) (csV_73 hts rfl rfl ⟨Nat.le_of_ble_eq_true rfl, Nat.le_of_ble_eq_true rfl⟩) (zPV2 (q0 := 0) (ci := 6) hPc hDc hK hXN rfl rfl) rfl rfl hl.1 rfl (lv_room (Nat.le_of_ble_eq_true rfl)) dX4_cornerThatGoes_128 ⟨Nat.le_of_ble_eq_true rfl, Nat.le_of_ble_eq_true rfl⟩) hS hFc hFc rfl (fun t H locs ht hB hk1 hS => ?_)
                    obtain ⟨P3, Q3, hc1, hc2, hP1, hD1⟩ := hB
                    rw [ht] at hP1
                    obtain ⟨hP, hD⟩ := znQ (W2 := [_, _, _, _, _, _, _, (oc6 dr (.ref dx) (.ref dy) (nI (n - 1)) rg), (oa dx cI cd P3), (oa dy cI cd Q3), _, _, _, _, _, _, _, _, _, _]) hP hD hk1 hFc hP1 hD1 [7, 8, 9] zl_37 zl_37 [7, 8, 9] (by decide +kernel) rfl rfl rfl rfl rfl
                    clear hk1 hPc hDc hFc hP1 hD1 ht
                    have hcut := ct_cg hcp hc1 hc2 hbk
                    refine lv_aload_n hx hb dX4_cornerThatGoes_131 rfl (lv_at hl 3 rfl) ?_
                    refine lv_aload_n hx hb dX4_cornerThatGoes_132 rfl (lv_at hl 4 rfl) ?_
                    refine lv_aload_n hx hb dX4_cornerThatGoes_133 rfl (lv_at hl 5 rfl) ?_
                    refine lv_aload hx hb dX4_cornerThatGoes_134 (lv_at hl 2 rfl) ?_
                    refine va_get (D := (dC, dI)) (ci := 6) (v := .ref rx) (C := RX7) (T := TX7) (N := 4) hx hb hts inX7 hown hK hP 17 rfl rfl 0 (Nat.le_of_ble_eq_true rfl) (hts _ mw_163) (fun _ h9 => h9) rfl dX4_cornerThatGoes_136 ?_
                    refine lv_iload hx hb dX4_cornerThatGoes_139 (lv_at hl 0 rfl) ?_
                    refine zz_i (v := nI b9) (hz9) ?_
                    have b9_40 : b9 < cap := by omega
                    have b9_41 : zlt (cap) := show cap < 2147483648 by omega
                    refine z_iald hx hb hK hP 18 0 rfl rfl (e := b9) rfl b9_40 b9_41 dX4_cornerThatGoes_141 ?_
                    refine lv_aload hx hb dX4_cornerThatGoes_142 (lv_at hl 2 rfl) ?_
                    refine va_get (D := (dC, dI)) (ci := 6) (v := .ref ry) (C := RX7) (T := TX7) (N := 4) hx hb hts inX7 hown hK hP 17 rfl rfl 1 (Nat.le_of_ble_eq_true rfl) (hts _ mw_170) (fun _ h9 => h9) rfl dX4_cornerThatGoes_144 ?_
                    refine lv_iload hx hb dX4_cornerThatGoes_147 (lv_at hl 0 rfl) ?_
                    refine zz_i (v := nI b9) (hz9) ?_
                    refine z_iald hx hb hK hP 19 0 rfl rfl (e := b9) rfl b9_40 b9_41 dX4_cornerThatGoes_149 ?_
                    obtain ⟨hPc, hDc, hFc, hI1⟩ := zi_part (cx := [_, _, _, _, _]) hP hD hS hA [0, 13, 14, 15, 16] (by decide +kernel) rfl
                    refine zcall (st1 := [.int (pI (∀ q, q < ft → (q ≠ f0 → lvF ft st tn q → ¬ onF kd mn cx cy q (X b9).toInt (Y b9).toInt)))]) (va_runV (As := [.ref sh, .ref fe, .int (X b9), .int (Y b9)]) (rest := []) ⟨hx, hb, hml, hown, hts⟩ (k_Law_isBare l dC dI cI cZ cF H.size lw dr tg wy br bo aa sh fa ft FA fe lo rk9 wd9 tw9 pa9 pb9 lk kd9 st9 gb9 jt9 we9 r f0 fm9 L f kd st tn mn cx cy (X b9) (Y b9) (by first | with_reducible assumption | omega) (by first | with_reducible assumption | omega) (hFA) (hs1) (by first | with_reducible assumption | assumption) (by first | with_reducible assumption | assumption) (by first | with_reducible assumption | assumption) ((hp b9 hbk).1) ((hp b9 hbk).2)) (csV_74 hts rfl rfl ⟨Nat.le_of_ble_eq_true rfl, Nat.le_of_ble_eq_true rfl⟩) (zPV2 (q0 := 0) (ci := 3) hPc hDc hK hXN rfl rfl) rfl rfl hl.1 rfl (lv_room (Nat.le_of_ble_eq_true rfl)) dX4_cornerThatGoes_150 ⟨Nat.le_of_ble_eq_true rfl, Nat.le_of_ble_eq_true rfl⟩) hS hFc hFc rfl (fun t H locs ht hB hk1 hS => ?_)
                    obtain ⟨hP1, hD1⟩ := hB
                    rw [ht] at hP1
                    replace hP := z0 hP hD hk1 hP1 hI1
                    clear hk1 hPc hDc hFc hP1 hD1 ht hI1
                    refine zz_i (v := pI (bareK ft st tn kd mn cx cy f0 (X b9).toInt (Y b9).toInt)) (rfl) ?_
                    refine lv_if_eq (tgt := 170) hx hb dX4_cornerThatGoes_153 rfl (fun c_42 => ?_) (fun c_42 => ?_)
                    · have c_42 : ¬ (bareK ft st tn kd mn cx cy f0 (X b9).toInt (Y b9).toInt) := zp_0 c_42
                      have hbad : ¬ goK ft st tn kd mn cx cy f0 n X Y rg lim b9 := fun h9 => (by first | exact absurd h9.2.2.1 (by first | with_reducible assumption | assumption) | exact absurd h9.2.2.2 (by first | with_reducible assumption | assumption))
                      refine lv_aload_n hx hb dX4_cornerThatGoes_170 rfl (lv_at hl 3 rfl) ?_
                      refine va_get (D := (dC, dI)) (ci := 3) (v := .ref aa) (C := RX4) (T := TX4) (N := 6) hx hb hts inX4 hown hK hP 0 rfl rfl 5 (Nat.le_of_ble_eq_true rfl) (hts _ mw_225) (fun _ h9 => h9) rfl dX4_cornerThatGoes_171 ?_
                      refine lv_iload hx hb dX4_cornerThatGoes_174 (lv_at hl 0 rfl) ?_
                      refine zz_i (v := nI b9) (hz9) ?_
                      refine lv_iconst (v := (-1)) hx hb dX4_cornerThatGoes_176 rfl ?_
                      have b9_43 : b9 < 40 := by omega
                      refine z_iast hx hb hK hP hD hS 12 0 rfl rfl (e := b9) (x := (-1)) rfl b9_43 (Nat.le_of_ble_eq_true rfl) dX4_cornerThatGoes_177 (fun H locs hP hD hS => ?_)
                      obtain ⟨hP, hD⟩ := zre (W2 := ([_, _, _, _, _, _, _, _, _, _, _, _, (oa aa cI 40 (upd AR1 b9 (-1))), _, _, _, _, _, _, _] ++ va_pl L f)) hP hD rfl
                      refine lv_iinc (v := nI (t5 + 1)) (lv' := [(5, .int (nI (t5 + 1))), (6, .int zb), (4, .ref r), (0, .ref lw), (1, .ref sh), (2, .ref fe), (3, .int lim)]) hx hb dX4_cornerThatGoes_178 hl (k := 1) rfl (nI_add t5 1) (Nat.le_of_ble_eq_true rfl) rfl (fun ls hl => ?_)
                      refine lv_goto (tgt := 83) hx hb dX4_cornerThatGoes_181 rfl ?_
                      exact ih_83 (t5 + 1) (fun j => R j ∨ j = b9) (upd AR1 b9 (-1)) nt1 TX1 TY1 rt1 nw1 WX1 WY1 rw1 (n - 1) P3 Q3 rg d5 d6 d7 d8 e5 e6 e7 e8 H locs ls (by first | with_reducible assumption | omega) (by first | with_reducible assumption | omega) (arI_s har) (fun j hj h => h.elim (fun h9 => hR j hj h9) (fun h9 => by rw [h9]; exact hbad)) (Nat.lt_of_le_of_lt hct (cntP_lt (fun j h => Or.inl h) hbk (Or.inr rfl) hF9.1)) hP hD hS (lv_sub hl [0, 2, 3, 4, 5, 6] rfl)
                    · have c_42 : bareK ft st tn kd mn cx cy f0 (X b9).toInt (Y b9).toInt := zp_1 c_42
                      refine lv_aload_n hx hb dX4_cornerThatGoes_156 rfl (lv_at hl 3 rfl) ?_
                      refine lv_aload_n hx hb dX4_cornerThatGoes_157 rfl (lv_at hl 4 rfl) ?_
                      refine lv_aload_n hx hb dX4_cornerThatGoes_158 rfl (lv_at hl 5 rfl) ?_
                      refine lv_iload hx hb dX4_cornerThatGoes_159 (lv_at hl 0 rfl) ?_
                      refine zz_i (v := nI b9) (hz9) ?_
                      obtain ⟨hPc, hDc, hFc⟩ := zo_part (cx := [_, _, _, _, _, _, _, _, _, _, _, _, _, _, _, _, _, _, _]) hP hD hS hA [0, 1, 2, 3, 4, 5, 6, 7, 8, 9, 10, 11, 13, 14, 15, 16, 17, 18, 19] (by decide +kernel) rfl
                      refine zcall (st1 := [.int (pI (pls (n - 1) P3 Q3 ∧ eFr (n - 1) P3 Q3 rg (prv (n - 1) (gpK (n - 1) b9)) 0 ∧ ∀ q, q < ft → (q ≠ f0 → lvF ft st tn q → (apB (min (min (X b9).toInt (X (prv n b9)).toInt) (X (nxt n b9)).toInt) (min (min (Y b9).toInt (Y (prv n b9)).toInt) (Y (nxt n b9)).toInt) (max (max (X b9).toInt (X (prv n b9)).toInt) (X (nxt n b9)).toInt) (max (max (Y b9).toInt (Y (prv n b9)).toInt) (Y (nxt n b9)).toInt) (nN (mn q)) (cF40 cx q) (cF40 cy q) ∨ (asb n X Y rg (n - 1) P3 Q3 rg (nN (mn q)) (cF40 cx q) (cF40 cy q) (rgK (kd q).toInt) ∧ (¬ ∃ j, j < nN (mn q) ∧ swC n X Y b9 (cF40 cx q j).toInt (cF40 cy q j).toInt))))))]) (va_runV (As := [.ref sh, .ref fe, .int (nI b9)]) (rest := []) ⟨hx, hb, hml, hown, hts⟩ (k_Law_allows_k l dC dI cI cZ cF H.size lw dr tg wy br bo aa tx ty nt1 TX1 TY1 rt1 wx wz nw1 WX1 WY1 rw1 dx dy (n - 1) cd P3 Q3 rg d5 d6 d7 d8 e5 e6 e7 e8 sh fa ft FA fe lo rk9 wd9 tw9 pa9 pb9 lk kd9 st9 gb9 jt9 we9 r rx ry n cap X Y rg f0 b9 fm9 L f kd st tn mn cx cy (by first | with_reducible assumption | omega) (by first | with_reducible assumption | omega) (hFA) (hs1) (by first | with_reducible assumption | assumption) (by first | with_reducible assumption | assumption) (by first | with_reducible assumption | assumption) (by first | with_reducible assumption | omega) (by first | with_reducible assumption | omega) (by first | with_reducible assumption | omega) (by first | with_reducible assumption | omega) (hp) (by first | with_reducible assumption | omega) (by first | with_reducible assumption | omega) (by first | with_reducible assumption | omega) (by first | with_reducible assumption | omega)) (csV_75 hts rfl rfl ⟨Nat.le_of_ble_eq_true rfl, Nat.le_of_ble_eq_true rfl⟩) (zPV2 (q0 := 0) (ci := 3) hPc hDc hK hXN rfl rfl) rfl rfl hl.1 rfl (lv_room (Nat.le_of_ble_eq_true rfl)) dX4_cornerThatGoes_161 ⟨Nat.le_of_ble_eq_true rfl, Nat.le_of_ble_eq_true rfl⟩) hS hFc hFc rfl (fun t H locs ht hB hk1 hS => ?_)
                      refine ex16 hB (fun q_44 q_45 q_46 q_47 q_48 q_49 q_50 q_51 q_52 q_53 q_54 q_55 q_56 q_57 q_58 q_59 hB0 => ?_)
                      clear hB
                      obtain ⟨hP1, hD1⟩ := hB0
                      rw [ht] at hP1
                      obtain ⟨hP, hD⟩ := znP (W2 := [_, (oc6 tg (.ref tx) (.ref ty) (nI q_44) q_47), (oa tx cI 3 q_45), (oa ty cI 3 q_46), (oc6 wy (.ref wx) (.ref wz) (nI q_48) q_51), (oa wx cI 2 q_49), (oa wz cI 2 q_50), _, _, _, (oc0 br q_52 q_53 q_54 q_55), (oc0 bo q_56 q_57 q_58 q_59), _, _, _, _, _, _, _, _]) hP hD hk1 hFc hP1 hD1 zl_38 zl_39 zl_40 zl_38 (by decide +kernel) rfl rfl rfl rfl rfl
                      clear hk1 hPc hDc hFc hP1 hD1 ht
                      refine zz_i (v := pI (alC ft st tn kd mn cx cy f0 n X Y rg (n - 1) (ctF X b9) (ctF Y b9) rg b9)) (zp_iff (alC_cg (by omega) hcut)) ?_
                      refine lv_if_eq (tgt := 170) hx hb dX4_cornerThatGoes_164 rfl (fun c_60 => ?_) (fun c_60 => ?_)
                      · have c_60 : ¬ (alC ft st tn kd mn cx cy f0 n X Y rg (n - 1) (ctF X b9) (ctF Y b9) rg b9) := zp_0 c_60
                        have hbad : ¬ goK ft st tn kd mn cx cy f0 n X Y rg lim b9 := fun h9 => (by first | exact absurd h9.2.2.1 (by first | with_reducible assumption | assumption) | exact absurd h9.2.2.2 (by first | with_reducible assumption | assumption))
                        refine lv_aload_n hx hb dX4_cornerThatGoes_170 rfl (lv_at hl 3 rfl) ?_
                        refine va_get (D := (dC, dI)) (ci := 3) (v := .ref aa) (C := RX4) (T := TX4) (N := 6) hx hb hts inX4 hown hK hP 0 rfl rfl 5 (Nat.le_of_ble_eq_true rfl) (hts _ mw_225) (fun _ h9 => h9) rfl dX4_cornerThatGoes_171 ?_
                        refine lv_iload hx hb dX4_cornerThatGoes_174 (lv_at hl 0 rfl) ?_
                        refine zz_i (v := nI b9) (hz9) ?_
                        refine lv_iconst (v := (-1)) hx hb dX4_cornerThatGoes_176 rfl ?_
                        have b9_61 : b9 < 40 := by omega
                        refine z_iast hx hb hK hP hD hS 12 0 rfl rfl (e := b9) (x := (-1)) rfl b9_61 (Nat.le_of_ble_eq_true rfl) dX4_cornerThatGoes_177 (fun H locs hP hD hS => ?_)
                        obtain ⟨hP, hD⟩ := zre (W2 := ([_, _, _, _, _, _, _, _, _, _, _, _, (oa aa cI 40 (upd AR1 b9 (-1))), _, _, _, _, _, _, _] ++ va_pl L f)) hP hD rfl
                        refine lv_iinc (v := nI (t5 + 1)) (lv' := [(5, .int (nI (t5 + 1))), (6, .int zb), (4, .ref r), (0, .ref lw), (1, .ref sh), (2, .ref fe), (3, .int lim)]) hx hb dX4_cornerThatGoes_178 hl (k := 1) rfl (nI_add t5 1) (Nat.le_of_ble_eq_true rfl) rfl (fun ls hl => ?_)
                        refine lv_goto (tgt := 83) hx hb dX4_cornerThatGoes_181 rfl ?_
                        exact ih_83 (t5 + 1) (fun j => R j ∨ j = b9) (upd AR1 b9 (-1)) q_44 q_45 q_46 q_47 q_48 q_49 q_50 q_51 (n - 1) P3 Q3 rg q_52 q_53 q_54 q_55 q_56 q_57 q_58 q_59 H locs ls (by first | with_reducible assumption | omega) (by first | with_reducible assumption | omega) (arI_s har) (fun j hj h => h.elim (fun h9 => hR j hj h9) (fun h9 => by rw [h9]; exact hbad)) (Nat.lt_of_le_of_lt hct (cntP_lt (fun j h => Or.inl h) hbk (Or.inr rfl) hF9.1)) hP hD hS (lv_sub hl [0, 2, 3, 4, 5, 6] rfl)
                      · have c_60 : alC ft st tn kd mn cx cy f0 n X Y rg (n - 1) (ctF X b9) (ctF Y b9) rg b9 := zp_1 c_60
                        refine lv_iload hx hb dX4_cornerThatGoes_167 (lv_at hl 0 rfl) ?_
                        have hy9 := go_yes hp har hR hbk hF9 hbm (by first | with_reducible assumption | assumption) (by first | with_reducible assumption | assumption)
                        rw [← hz9] at hy9
                        obtain ⟨hP9, hD9⟩ := zu_part (cx := [_, _, _, _, _, _, _, _, _, _, _, _, _, _, _, _, _, _, _, _]) hP hD [true, true, true, true, true, true, true, true, true, true, true, true, true, true, true, true, true, true, true, true] rfl rfl
                        rw [hQ9]
                        exact W.iret (v := zb) hx hb hr (fun t ht hW => ⟨⟨_, rfl, zb, q_44, q_45, q_46, q_47, q_48, q_49, q_50, q_51, (n - 1), P3, Q3, rg, q_52, q_53, q_54, q_55, q_56, q_57, q_58, q_59, AR1, rfl, (hy9), by rw [ht]; exact hP9, hD9⟩, hS.F ht⟩) hS.2.2 dX4_cornerThatGoes_169
                  · have c_39 : zb.toInt = (-1) := zc_eq rfl rfl c_39
                    refine lv_iconst (v := (-1)) hx hb dX4_cornerThatGoes_111 rfl ?_
                    have hy9 := go_no (lim := lim) hp hn2.2 har hR hat (by omega)
                    obtain ⟨hP9, hD9⟩ := zu_part (cx := [_, _, _, _, _, _, _, _, _, _, _, _, _, _, _, _, _, _, _, _]) hP hD [true, true, true, true, true, true, true, true, true, true, true, true, true, true, true, true, true, true, true, true] rfl rfl
                    rw [hQ9]
                    exact W.iret (v := (-1)) hx hb hr (fun t ht hW => ⟨⟨_, rfl, (-1), nt1, TX1, TY1, rt1, nw1, WX1, WY1, rw1, nd1, P1, Q1, rd1, d5, d6, d7, d8, e5, e6, e7, e8, AR1, rfl, (hy9), by rw [ht]; exact hP9, hD9⟩, hS.F ht⟩) hS.2.2 dX4_cornerThatGoes_112
            exact hl_83 _ 0 (fun _ => False) AR1 nt TX TY rt nw WX WY rw nd P Q rd b1 b2 b3 b4 b5 b6 b7 b8 H locs ls (Nat.lt_succ_self _) (by first | with_reducible assumption | omega) (fun j hj => har j (by first | with_reducible assumption | omega)) (fun j hj h => h.elim) (Nat.zero_le _) hP hD hS (lv_sub hl [0, 1, 2, 3, 4, 5] rfl)
          · have c_35 : ((k : Nat) : Int) < ((n : Nat) : Int) := zc_nle (nI_toInt b9_34) (nI_toInt b9_36) c_35
            refine lv_aload_n hx hb dX4_cornerThatGoes_46 rfl (lv_at hl 2 rfl) ?_
            refine va_get (D := (dC, dI)) (ci := 3) (v := .ref aa) (C := RX4) (T := TX4) (N := 6) hx hb hts inX4 hown hK hP 0 rfl rfl 5 (Nat.le_of_ble_eq_true rfl) (hts _ mw_225) (fun _ h9 => h9) rfl dX4_cornerThatGoes_47 ?_
            refine lv_iload hx hb dX4_cornerThatGoes_50 (lv_at hl 0 rfl) ?_
            refine lv_aload hx hb dX4_cornerThatGoes_52 (lv_at hl 1 rfl) ?_
            refine lv_iload hx hb dX4_cornerThatGoes_54 (lv_at hl 0 rfl) ?_
            obtain ⟨hPc, hDc, hFc, hI1⟩ := zi_sub (wc := [_, _, _]) hP hD hS hA [17, 18, 19] rfl rfl
            refine zcall (st1 := [.int (pI (rg.toInt = 0 ∧ (k = 0 ∨ k = n - 1))), .int (nI k), .ref aa]) (va_runV (As := [.int (nI k)]) (rest := [.int (nI k), .ref aa]) ⟨hx, hb, hml, hown, hts⟩ (k_Row_isEnd l dC dI cI cZ cF H.size r rx ry n cap X Y rg k (by first | with_reducible assumption | omega) (by first | with_reducible assumption | omega) (by first | with_reducible assumption | omega)) (csV_76 hts rfl rfl ⟨Nat.le_of_ble_eq_true rfl, Nat.le_of_ble_eq_true rfl⟩) (zPV2 (q0 := 0) (ci := 6) hPc hDc hK hXN rfl rfl) rfl rfl hl.1 rfl (lv_room (Nat.le_of_ble_eq_true rfl)) dX4_cornerThatGoes_56 ⟨Nat.le_of_ble_eq_true rfl, Nat.le_of_ble_eq_true rfl⟩) hS hFc hFc rfl (fun t H locs ht hB hk1 hS => ?_)
            obtain ⟨hP1, hD1⟩ := hB
            rw [ht] at hP1
            replace hP := z0 hP hD hk1 hP1 hI1
            clear hk1 hPc hDc hFc hP1 hD1 ht hI1
            refine zz_i (v := pI (arE n rg k)) (rfl) ?_
            refine lv_if_eq (tgt := 66) hx hb dX4_cornerThatGoes_59 rfl (fun c_62 => ?_) (fun c_62 => ?_)
            · have c_62 : ¬ (arE n rg k) := zp_0 c_62
              refine lv_aload hx hb dX4_cornerThatGoes_66 (lv_at hl 1 rfl) ?_
              refine lv_iload hx hb dX4_cornerThatGoes_68 (lv_at hl 0 rfl) ?_
              obtain ⟨hPc, hDc, hFc, hI1⟩ := zi_sub (wc := [_, _, _]) hP hD hS hA [17, 18, 19] rfl rfl
              refine zcall (st1 := [.int (nI (Int.natAbs (eCr n X Y (prv n k) (X (nxt n k)).toInt (Y (nxt n k)).toInt))), .int (nI k), .ref aa]) (va_runV (As := [.int (nI k)]) (rest := [.int (nI k), .ref aa]) ⟨hx, hb, hml, hown, hts⟩ (k_Row_doubleTriangle l dC dI cI cZ cF H.size r rx ry n cap X Y rg k (by first | with_reducible assumption | omega) (by first | with_reducible assumption | omega) (by first | with_reducible assumption | assumption) (by first | with_reducible assumption | omega)) (csV_77 hts rfl rfl ⟨Nat.le_of_ble_eq_true rfl, Nat.le_of_ble_eq_true rfl⟩) (zPV2 (q0 := 0) (ci := 6) hPc hDc hK hXN rfl rfl) rfl rfl hl.1 rfl (lv_room (Nat.le_of_ble_eq_true rfl)) dX4_cornerThatGoes_70 ⟨Nat.le_of_ble_eq_true rfl, Nat.le_of_ble_eq_true rfl⟩) hS hFc hFc rfl (fun t H locs ht hB hk1 hS => ?_)
              obtain ⟨hP1, hD1⟩ := hB
              rw [ht] at hP1
              replace hP := z0 hP hD hk1 hP1 hI1
              clear hk1 hPc hDc hFc hP1 hD1 ht hI1
              have b9_63 : k < 40 := by omega
              refine z_iast hx hb hK hP hD hS 12 0 rfl rfl (e := k) (x := nI (Int.natAbs (eCr n X Y (prv n k) (X (nxt n k)).toInt (Y (nxt n k)).toInt))) rfl b9_63 (Nat.le_of_ble_eq_true rfl) dX4_cornerThatGoes_73 (fun H locs hP hD hS => ?_)
              obtain ⟨hP, hD⟩ := zre (W2 := ([_, _, _, _, _, _, _, _, _, _, _, _, (oa aa cI 40 (upd AR1 k (nI (Int.natAbs (eCr n X Y (prv n k) (X (nxt n k)).toInt (Y (nxt n k)).toInt))))), _, _, _, _, _, _, _] ++ va_pl L f)) hP hD rfl
              refine lv_iinc (v := nI (k + 1)) (lv' := [(5, .int (nI (k + 1))), (4, .ref r), (0, .ref lw), (1, .ref sh), (2, .ref fe), (3, .int lim)]) hx hb dX4_cornerThatGoes_74 hl (k := 0) rfl (nI_add k 1) (Nat.le_of_ble_eq_true rfl) rfl (fun ls hl => ?_)
              refine lv_goto (tgt := 36) hx hb dX4_cornerThatGoes_77 rfl ?_
              exact ih_36 (k + 1) (upd AR1 k (nI (Int.natAbs (eCr n X Y (prv n k) (X (nxt n k)).toInt (Y (nxt n k)).toInt)))) H locs ls (by first | with_reducible assumption | omega) (by first | with_reducible assumption | omega) (by intro j hj; rcases Nat.lt_or_ge j k with h | h; (rw [show upd AR1 k _ j = AR1 j from if_neg (by first | with_reducible assumption | omega)]; exact har j h); (rw [show j = k by omega, up_at]; first | exact ⟨fun _ => rfl, fun h9 => absurd (Or.inr (by first | with_reducible assumption | assumption)) h9⟩ | exact ⟨fun h9 => absurd (h9.resolve_left id) (by first | with_reducible assumption | assumption), fun _ => rfl⟩)) hP hD hS (lv_sub hl [0, 1, 2, 3, 4, 5] rfl)
            · have c_62 : arE n rg k := zp_1 c_62
              refine lv_iconst (v := (-1)) hx hb dX4_cornerThatGoes_62 rfl ?_
              refine lv_goto (tgt := 73) hx hb dX4_cornerThatGoes_63 rfl ?_
              have b9_64 : k < 40 := by omega
              refine z_iast hx hb hK hP hD hS 12 0 rfl rfl (e := k) (x := (-1)) rfl b9_64 (Nat.le_of_ble_eq_true rfl) dX4_cornerThatGoes_73 (fun H locs hP hD hS => ?_)
              obtain ⟨hP, hD⟩ := zre (W2 := ([_, _, _, _, _, _, _, _, _, _, _, _, (oa aa cI 40 (upd AR1 k (-1))), _, _, _, _, _, _, _] ++ va_pl L f)) hP hD rfl
              refine lv_iinc (v := nI (k + 1)) (lv' := [(5, .int (nI (k + 1))), (4, .ref r), (0, .ref lw), (1, .ref sh), (2, .ref fe), (3, .int lim)]) hx hb dX4_cornerThatGoes_74 hl (k := 0) rfl (nI_add k 1) (Nat.le_of_ble_eq_true rfl) rfl (fun ls hl => ?_)
              refine lv_goto (tgt := 36) hx hb dX4_cornerThatGoes_77 rfl ?_
              exact ih_36 (k + 1) (upd AR1 k (-1)) H locs ls (by first | with_reducible assumption | omega) (by first | with_reducible assumption | omega) (by intro j hj; rcases Nat.lt_or_ge j k with h | h; (rw [show upd AR1 k _ j = AR1 j from if_neg (by first | with_reducible assumption | omega)]; exact har j h); (rw [show j = k by omega, up_at]; first | exact ⟨fun _ => rfl, fun h9 => absurd (Or.inr (by first | with_reducible assumption | assumption)) h9⟩ | exact ⟨fun h9 => absurd (h9.resolve_left id) (by first | with_reducible assumption | assumption), fun _ => rfl⟩)) hP hD hS (lv_sub hl [0, 1, 2, 3, 4, 5] rfl)
      exact hl_36 _ 0 AR s.heap [] ls (Nat.lt_succ_self _) (by first | with_reducible assumption | omega) (by intro j hj; omega) hP hD hS (lv_sub hl [0, 1, 2, 3, 4, 5] rfl)
    · have c_33 : ((n : Nat) : Int) ≤ 3 := zc_nlt rfl (nI_toInt b9_34) c_33
      exfalso; omega
end
