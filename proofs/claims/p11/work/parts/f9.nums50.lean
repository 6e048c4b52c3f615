section
/-! the corners of one feature go one by one -/
theorem rgK_01 (k : Int) : rgK k = 0 ∨ rgK k = 1 := by unfold rgK; split <;> simp
theorem th_r {ft : Nat} {st tn kd : Nat → Int32} {f : Nat} {mn cx cy : Nat → Int32} {n : Nat} (h : thI ft st tn kd f mn cx cy n) : ((¬ (rgK (kd f).toInt).toInt = 0 ∧ n ≤ 3) ∧ ∀ L, ¬ ∃ k, pBest ft st tn kd mn cx cy f n L k) ∨ (((rgK (kd f).toInt).toInt = 0 ∨ 4 ≤ n) ∧ (¬ 5 ≤ (kd f).toInt ∨ 4 ≤ n)) := by
  rw [rgK_0]
  by_cases e : 5 ≤ (kd f).toInt ∧ n ≤ 3
  · refine Or.inl ⟨by omega, fun L ⟨k, hk⟩ => ?_⟩
    have := hk.2.1.1.1; have := h.2.2.2.2.2.1 e.1; omega
  · exact Or.inr (by omega)
theorem nN_n9 {n : Nat} (h : n ≤ 1000) : nN (nI n) = n := by unfold nN; rw [nI_toInt (by omega)]; omega
theorem thI_s {ft : Nat} {st tn kd : Nat → Int32} {f L : Nat} {mn cx cy : Nat → Int32} {n k : Nat} (h : thI ft st tn kd f mn cx cy n) (hb : pBest ft st tn kd mn cx cy f n L k) : thI ft st tn kd f (upd mn f (nI (n - 1))) (shp f k (n - 1) cx) (shp f k (n - 1) cy) (n - 1) := by
  obtain ⟨hp, hs, hk, hkd, h2, h3, hl⟩ := h
  obtain ⟨b1, b2, b3, b4⟩ := hb
  have hg := b2.1.1
  have n40 := hp.2.1
  have hq : ∀ q, lvF ft st tn q → q ≠ f → wfM (upd mn f (nI (n - 1))) (shp f k (n - 1) cx) (shp f k (n - 1) cy) q := fun q hq hqf => by
    have w := hp.2.2.2.1 q hq
    unfold wfM at w ⊢
    rw [show upd mn f (nI (n - 1)) q = mn q from if_neg hqf]
    refine ⟨w.1, w.2.1, fun j hj => ?_⟩
    rw [shp_ot hqf n40.2 j (by have := w.2.1; omega), shp_ot hqf n40.2 j (by have := w.2.1; omega)]; exact w.2.2 j hj
  have hf : wfM (upd mn f (nI (n - 1))) (shp f k (n - 1) cx) (shp f k (n - 1) cy) f := by
    unfold wfM
    rw [up_at, nN_n9 (by omega)]
    exact ⟨rfl, by omega, b3.1⟩
  refine ⟨⟨up_at _ _ _, by omega, b3.1, fun q hq9 => ?_, fun g => by omega⟩, b3.2.1, fun q hq9 => ?_, hkd, by omega, fun g => by have := h3 g; omega, hl⟩
  · by_cases e : q = f
    · rw [e]; exact hf
    · exact hq q hq9 e
  · by_cases e : q = f
    · rw [e, up_at, nN_n9 (by omega)]; exact Or.inr ⟨by omega, by omega⟩
    · rw [show upd mn f (nI (n - 1)) q = mn q from if_neg e]; exact hk q hq9
/-- others stay as they are while corners of one feature go -/
def othE (f : Nat) (mn cx cy mn1 cx1 cy1 : Nat → Int32) : Prop := (∀ q, q ≠ f → mn1 q = mn q) ∧ ∀ q, q ≠ f → ∀ j, j < 40 → cF40 cx1 q j = cF40 cx q j ∧ cF40 cy1 q j = cF40 cy q j
theorem othE_0 (f : Nat) (mn cx cy : Nat → Int32) : othE f mn cx cy mn cx cy := ⟨fun _ _ => rfl, fun _ _ _ _ => ⟨rfl, rfl⟩⟩
theorem othE_s {f k n : Nat} {mn cx cy mn1 cx1 cy1 : Nat → Int32} {x : Int32} (h : othE f mn cx cy mn1 cx1 cy1) (hn : n ≤ 40) : othE f mn cx cy (upd mn1 f x) (shp f k (n - 1) cx1) (shp f k (n - 1) cy1) :=
  ⟨fun q hq => by rw [show upd mn1 f x q = mn1 q from if_neg hq]; exact h.1 q hq, fun q hq j hj => by rw [shp_ot hq hn j hj, shp_ot hq hn j hj]; exact h.2 q hq j hj⟩
theorem cut_row {f k n : Nat} {cx cy X Y X1 Y1 : Nat → Int32} (hX : ∀ j, j < n → X j = cF40 cx f j ∧ Y j = cF40 cy f j) (h1 : ∀ j, j < k → X1 j = X j ∧ Y1 j = Y j) (h2 : ∀ j, k ≤ j → j < n - 1 → X1 j = X (j + 1) ∧ Y1 j = Y (j + 1)) (hk : k < n) : ∀ j, j < n - 1 → X1 j = cF40 (shp f k (n - 1) cx) f j ∧ Y1 j = cF40 (shp f k (n - 1) cy) f j := by
  intro j hj
  have c := ct_cg hX h1 h2 hk j hj
  rw [shp_ct j hj, shp_ct j hj]; exact c
theorem pl_go {ft : Nat} {st tn kd : Nat → Int32} {f L m : Nat} {mn cx cy mn1 cx1 cy1 : Nat → Int32} {n n1 k : Nat} (h : plN ft st tn kd f L m mn cx cy n mn1 cx1 cy1 n1) (hk : pBest ft st tn kd mn cx cy f n L k) : ∃ r, m = r + 1 ∧ plN ft st tn kd f L r (upd mn f (nI (n - 1))) (shp f k (n - 1) cx) (shp f k (n - 1) cy) (n - 1) mn1 cx1 cy1 n1 := by
  rcases Nat.eq_zero_or_pos m with e | e
  · exact absurd ⟨k, hk⟩ (plN_z e h).2.2.2.2
  · obtain ⟨r, k2, e1, h1, h2⟩ := plN_p e h
    rw [pBest_u hk h1]; exact ⟨r, e1, h2⟩
theorem pl_no {ft : Nat} {st tn kd : Nat → Int32} {f L m : Nat} {mn cx cy mn1 cx1 cy1 : Nat → Int32} {n n1 : Nat} (h : plN ft st tn kd f L m mn cx cy n mn1 cx1 cy1 n1) (hk : ¬ ∃ k, pBest ft st tn kd mn cx cy f n L k) : m = 0 ∧ mn1 = mn ∧ cx1 = cx ∧ cy1 = cy ∧ n1 = n := by
  rcases Nat.eq_zero_or_pos m with e | e
  · have z := plN_z e h; exact ⟨e, z.1, z.2.1, z.2.2.1, z.2.2.2.1⟩
  · obtain ⟨r, k2, e1, h1, h2⟩ := plN_p e h
    exact absurd ⟨k2, h1⟩ hk
end
section
set_option maxHeartbeats 4000000 in
set_option maxRecDepth 100000 in
theorem k_thin_f (l : Launch) (dC : Nat → ClassId) (dI : Nat → Nat → Nat) (cI cZ cF : ClassId) (sz : Nat) (x : Nat) (ro : Nat) (bq : Nat) (bp : Nat) (dq : Nat) (dp : Nat) (lv : Nat) (sl : Nat) (ds : Int32) (sd : Int32) (ul : Int32) (su : Int32) (lw : Nat) (dr : Nat) (tg : Nat) (wy : Nat) (br : Nat) (bo : Nat) (aa : Nat) (tx : Nat) (ty : Nat) (nt : Nat) (TX : Nat → Int32) (TY : Nat → Int32) (rt : Int32) (wx : Nat) (wz : Nat) (nw : Nat) (WX : Nat → Int32) (WY : Nat → Int32) (rw : Int32) (dx : Nat) (dy : Nat) (nd : Nat) (cd : Nat) (P : Nat → Int32) (Q : Nat → Int32) (rd : Int32) (b1 : Int32) (b2 : Int32) (b3 : Int32) (b4 : Int32) (b5 : Int32) (b6 : Int32) (b7 : Int32) (b8 : Int32) (AR : Nat → Int32) (sh : Nat) (fa : Nat) (ft : Nat) (FA : Nat → Option Nat) (fe : Nat) (lo : Nat) (rk9 : Int32) (wd9 : Int32) (tw9 : Int32) (pa9 : Int32) (pb9 : Int32) (lk : Nat) (gb9 : Int32) (jt9 : Int32) (r : Nat) (rx : Nat) (ry : Nat) (n : Nat) (cap : Nat) (X : Nat → Int32) (Y : Nat → Int32) (ln9 : Nat) (cl9 : Nat) (lx : Nat) (ly : Nat) (LX : Nat → Int32) (LY : Nat → Int32) (f0 : Nat) (wn : Nat) (LM : Nat) (m9 : Nat) (n1 : Nat) (L : List Nat) (f : Nat → va_E) (kd : Nat → Int32) (st : Nat → Int32) (tn : Nat → Int32) (mn : Nat → Int32) (cx : Nat → Int32) (cy : Nat → Int32) (mn1 : Nat → Int32) (cx1 : Nat → Int32) (cy1 : Nat → Int32) (lim : Int32) (fm : Nat) (h200 : ft ≤ 200) (hf0 : f0 < ft) (hFA : FA f0 = some fe) (hvw : ∀ q, q < ft → q ≠ f0 → vwO cI L f FA kd st tn mn cx cy q) (hI : thI ft st tn kd f0 mn cx cy n) (hpl : plN ft st tn kd f0 LM m9 mn cx cy n mn1 cx1 cy1 n1) (hL : lim.toInt = ((LM : Nat) : Int)) (hX : ∀ j, j < n → X j = cF40 cx f0 j ∧ Y j = cF40 cy f0 j) (hn : n ≤ cap ∧ cap ≤ 40) (hcd : 40 ≤ cd ∧ cd ≤ 1000) (hwl : wn + n ≤ cl9 ∧ cl9 ≤ 1000) (hp : pls n X Y) (hln : ln9 ≤ cl9) : zM l yX10_thin cX10_thin 6 (some .int) ({ frames := 6, cells := 0, slots := 0, locals := 157 } : Room) [.ref x, .ref fe, .int lim] (dC, dI) (zTy cI cZ cF) ([(oc8 x (.ref sh) (.ref lw) (.ref ro) (.ref bq) (.ref bp) (.ref dq) (.ref dp) (.ref lv) (.ref sl) ds sd ul su), (oc3 lw (.ref dr) (.ref tg) (.ref wy) (.ref br) (.ref bo) (.ref aa)), (oc6 tg (.ref tx) (.ref ty) (nI nt) rt), (oa tx cI 3 TX), (oa ty cI 3 TY), (oc6 wy (.ref wx) (.ref wz) (nI nw) rw), (oa wx cI 2 WX), (oa wz cI 2 WY), (oc6 dr (.ref dx) (.ref dy) (nI nd) rd), (oa dx cI cd P), (oa dy cI cd Q), (oc0 br b1 b2 b3 b4), (oc0 bo b5 b6 b7 b8), (oa aa cI 40 AR), (oc7 sh (.ref fa) (nI ft)), (oq fa cF 200 FA), (oc1 fe rk9 wd9 tw9 pa9 pb9 (.ref lo) (.ref lk) (.ref fm)), (oc4 lk (kd f0) (st f0) (.ref r) gb9 jt9 (nI wn)), (oc6 r (.ref rx) (.ref ry) (nI n) (rgK (kd f0).toInt)), (oa rx cI cap X), (oa ry cI cap Y), (oc6 lo (.ref lx) (.ref ly) (nI ln9) 0), (oa lx cI cl9 LX), (oa ly cI cl9 LY)] ++ va_pl L f) sz (some (.int (nI m9))) (fun A t => ∃ (nt1 : Nat), ∃ (TX1 : Nat → Int32), ∃ (TY1 : Nat → Int32), ∃ (rt1 : Int32), ∃ (nw1 : Nat), ∃ (WX1 : Nat → Int32), ∃ (WY1 : Nat → Int32), ∃ (rw1 : Int32), ∃ (nd1 : Nat), ∃ (P1 : Nat → Int32), ∃ (Q1 : Nat → Int32), ∃ (rd1 : Int32), ∃ (d5 : Int32), ∃ (d6 : Int32), ∃ (d7 : Int32), ∃ (d8 : Int32), ∃ (e5 : Int32), ∃ (e6 : Int32), ∃ (e7 : Int32), ∃ (e8 : Int32), ∃ (AR1 : Nat → Int32), ∃ (X2 : Nat → Int32), ∃ (Y2 : Nat → Int32), ∃ (LX2 : Nat → Int32), ∃ (LY2 : Nat → Int32), ∃ (lc2 : Nat), (∀ j, j < n1 → X2 j = cF40 cx1 f0 j ∧ Y2 j = cF40 cy1 f0 j) ∧ (lc2 ≤ cl9) ∧ zPD (dC, dI) classes A ([(oc8 x (.ref sh) (.ref lw) (.ref ro) (.ref bq) (.ref bp) (.ref dq) (.ref dp) (.ref lv) (.ref sl) ds sd ul su), (oc3 lw (.ref dr) (.ref tg) (.ref wy) (.ref br) (.ref bo) (.ref aa)), (oc6 tg (.ref tx) (.ref ty) (nI nt1) rt1), (oa tx cI 3 TX1), (oa ty cI 3 TY1), (oc6 wy (.ref wx) (.ref wz) (nI nw1) rw1), (oa wx cI 2 WX1), (oa wz cI 2 WY1), (oc6 dr (.ref dx) (.ref dy) (nI nd1) rd1), (oa dx cI cd P1), (oa dy cI cd Q1), (oc0 br d5 d6 d7 d8), (oc0 bo e5 e6 e7 e8), (oa aa cI 40 AR1), (oc7 sh (.ref fa) (nI ft)), (oq fa cF 200 FA), (oc1 fe rk9 wd9 tw9 pa9 pb9 (.ref lo) (.ref lk) (.ref fm)), (oc4 lk (kd f0) (st f0) (.ref r) gb9 jt9 (nI (wn + m9))), (oc6 r (.ref rx) (.ref ry) (nI n1) (rgK (kd f0).toInt)), (oa rx cI cap X2), (oa ry cI cap Y2), (oc6 lo (.ref lx) (.ref ly) (nI lc2) 0), (oa lx cI cl9 LX2), (oa ly cI cl9 LY2)] ++ va_pl L f) t.heap) 0 0 := by
  refine zIn (own := "ScaleShop") (loc := [(0, .ref x), (1, .ref fe), (2, .int lim)]) rfl rfl rfl rfl (fun p e s m below meth c hx hb hr hts hown hlocks hml hnm9 A hA hS hP hD hK hXN Q9 hQ9 ls hl => ?_)
  refine lv_iconst (v := 0) hx hb dX10_thin_0 rfl ?_
  refine lv_istore_n (lv' := [(3, .int 0), (0, .ref x), (1, .ref fe), (2, .int lim)]) hx hb dX10_thin_1 rfl hl (Nat.le_of_ble_eq_true rfl) rfl (fun ls hl => ?_)
  refine lv_iconst (v := 0) hx hb dX10_thin_2 rfl ?_
  refine lv_istore (lv' := [(4, .int 0), (3, .int 0), (0, .ref x), (1, .ref fe), (2, .int lim)]) hx hb dX10_thin_3 hl (Nat.le_of_ble_eq_true rfl) rfl (fun ls hl => ?_)
  have hl_5 : ∀ (n9 : Nat) (i5 : Nat) (w3 : Nat) (m2r : Nat) (n2 : Nat) (wn2 : Nat) (lc2 : Nat) (X2 : Nat → Int32) (Y2 : Nat → Int32) (LX2 : Nat → Int32) (LY2 : Nat → Int32) (mnj : Nat → Int32) (cxj : Nat → Int32) (cyj : Nat → Int32) (nt1 : Nat) (TX1 : Nat → Int32) (TY1 : Nat → Int32) (rt1 : Int32) (nw1 : Nat) (WX1 : Nat → Int32) (WY1 : Nat → Int32) (rw1 : Int32) (nd1 : Nat) (P1 : Nat → Int32) (Q1 : Nat → Int32) (rd1 : Int32) (d5 : Int32) (d6 : Int32) (d7 : Int32) (d8 : Int32) (e5 : Int32) (e6 : Int32) (e7 : Int32) (e8 : Int32) (AR1 : Nat → Int32) (H : Heap) (locs : List Loc) (ls : Array Slot), m2r < n9 → (thI ft st tn kd f0 mnj cxj cyj n2) → (plN ft st tn kd f0 LM m2r mnj cxj cyj n2 mn1 cx1 cy1 n1) → (∀ j, j < n2 → X2 j = cF40 cxj f0 j ∧ Y2 j = cF40 cyj f0 j) → (othE f0 mn cx cy mnj cxj cyj) → (i5 + n2 ≤ 40 ∧ n2 ≤ cap ∧ wn2 + n2 ≤ cl9 ∧ n2 ≤ n) → (w3 + m2r = m9 ∧ wn2 + m2r = wn + m9) → (lc2 ≤ cl9) → va_P (dC, dI) classes ([(oc8 x (.ref sh) (.ref lw) (.ref ro) (.ref bq) (.ref bp) (.ref dq) (.ref dp) (.ref lv) (.ref sl) ds sd ul su), (oc3 lw (.ref dr) (.ref tg) (.ref wy) (.ref br) (.ref bo) (.ref aa)), (oc6 tg (.ref tx) (.ref ty) (nI nt1) rt1), (oa tx cI 3 TX1), (oa ty cI 3 TY1), (oc6 wy (.ref wx) (.ref wz) (nI nw1) rw1), (oa wx cI 2 WX1), (oa wz cI 2 WY1), (oc6 dr (.ref dx) (.ref dy) (nI nd1) rd1), (oa dx cI cd P1), (oa dy cI cd Q1), (oc0 br d5 d6 d7 d8), (oc0 bo e5 e6 e7 e8), (oa aa cI 40 AR1), (oc7 sh (.ref fa) (nI ft)), (oq fa cF 200 FA), (oc1 fe rk9 wd9 tw9 pa9 pb9 (.ref lo) (.ref lk) (.ref fm)), (oc4 lk (kd f0) (st f0) (.ref r) gb9 jt9 (nI wn2)), (oc6 r (.ref rx) (.ref ry) (nI n2) (rgK (kd f0).toInt)), (oa rx cI cap X2), (oa ry cI cap Y2), (oc6 lo (.ref lx) (.ref ly) (nI lc2) 0), (oa lx cI cl9 LX2), (oa ly cI cl9 LY2)] ++ va_pl L f) H → va_D A ([(oc8 x (.ref sh) (.ref lw) (.ref ro) (.ref bq) (.ref bp) (.ref dq) (.ref dp) (.ref lv) (.ref sl) ds sd ul su), (oc3 lw (.ref dr) (.ref tg) (.ref wy) (.ref br) (.ref bo) (.ref aa)), (oc6 tg (.ref tx) (.ref ty) (nI nt1) rt1), (oa tx cI 3 TX1), (oa ty cI 3 TY1), (oc6 wy (.ref wx) (.ref wz) (nI nw1) rw1), (oa wx cI 2 WX1), (oa wz cI 2 WY1), (oc6 dr (.ref dx) (.ref dy) (nI nd1) rd1), (oa dx cI cd P1), (oa dy cI cd Q1), (oc0 br d5 d6 d7 d8), (oc0 bo e5 e6 e7 e8), (oa aa cI 40 AR1), (oc7 sh (.ref fa) (nI ft)), (oq fa cF 200 FA), (oc1 fe rk9 wd9 tw9 pa9 pb9 (.ref lo) (.ref lk) (.ref fm)), (oc4 lk (kd f0) (st f0) (.ref r) gb9 jt9 (nI wn2)), (oc6 r (.ref rx) (.ref ry) (nI n2) (rgK (kd f0).toInt)), (oa rx cI cap X2), (oa ry cI cap Y2), (oc6 lo (.ref lx) (.ref ly) (nI lc2) 0), (oa lx cI cl9 LX2), (oa ly cI cl9 LY2)] ++ va_pl L f) → va_S A s.heap H locs → lv_has ls 6 [(4, .int (nI i5)), (3, .int (nI w3)), (0, .ref x), (1, .ref fe), (2, .int lim)] → W p l e ({ frames := 6, cells := 0, slots := 0, locals := 157 } : Room) s m ([.ref x, .ref fe, .int lim] : List Value).toArray below meth c H locs 0 0 Q9 (F0 m 5 ls []) := by
    intro n9
    induction n9 with
    | zero => intro i5 w3 m2r n2 wn2 lc2 X2 Y2 LX2 LY2 mnj cxj cyj nt1 TX1 TY1 rt1 nw1 WX1 WY1 rw1 nd1 P1 Q1 rd1 d5 d6 d7 d8 e5 e6 e7 e8 AR1 H locs ls hm; exact absurd hm (Nat.not_lt_zero _)
    | succ n9 ih_5 =>
      intro i5 w3 m2r n2 wn2 lc2 X2 Y2 LX2 LY2 mnj cxj cyj nt1 TX1 TY1 rt1 nw1 WX1 WY1 rw1 nd1 P1 Q1 rd1 d5 d6 d7 d8 e5 e6 e7 e8 AR1 H locs ls hm hIj hplj hXj hoj hcn hwm hlc2 hP hD hS hl
      refine lv_iload hx hb dX10_thin_5 (lv_at hl 0 rfl) ?_
      refine lv_bipush (v := 40) hx hb dX10_thin_7 rfl ?_
      have b9_2 : zlt (i5) := show i5 < 2147483648 by omega
      refine lv_icmp_ge (tgt := 51) hx hb dX10_thin_9 rfl (fun c_1 => ?_) (fun c_1 => ?_)
      · have c_1 : 40 ≤ ((i5 : Nat) : Int) := zc_le rfl (nI_toInt b9_2) c_1
        exfalso; have h9 := hIj.2.2.2.2.1; omega
      · have c_1 : ((i5 : Nat) : Int) < 40 := zc_nle rfl (nI_toInt b9_2) c_1
        have hwfj := hIj.1.2.2.2.1
        have hpj := hIj.1.2.2.1
        have h2j := hIj.2.2.2.2.1
        have hvwj : ∀ q, q < ft → q ≠ f0 → vwO cI L f FA kd st tn mnj cxj cyj q := fun q h1 h2 => vwO_cg (hoj.1 q h2) (hoj.2 q h2) (hvw q h1 h2)
        have hpx2 : pls n2 X2 Y2 := (pls_cg hXj).mpr hpj
        refine lv_aload_n hx hb dX10_thin_12 rfl (lv_at hl 2 rfl) ?_
        refine va_get (D := (dC, dI)) (ci := 8) (v := .ref lw) (C := RX10) (T := TX10) (N := 13) hx hb hts inX10 hown hK hP 0 rfl rfl 1 (Nat.le_of_ble_eq_true rfl) (hts _ mw_310) (fun _ h9 => h9) rfl dX10_thin_13 ?_
        rcases th_r hIj with ⟨h3, hno3⟩ | ⟨h3, hr3⟩
        · skip
          refine lv_aload_n hx hb dX10_thin_16 rfl (lv_at hl 2 rfl) ?_
          refine va_get (D := (dC, dI)) (ci := 8) (v := .ref sh) (C := RX10) (T := TX10) (N := 13) hx hb hts inX10 hown hK hP 0 rfl rfl 0 (Nat.le_of_ble_eq_true rfl) (hts _ mw_309) (fun _ h9 => h9) rfl dX10_thin_17 ?_
          refine lv_aload_n hx hb dX10_thin_20 rfl (lv_at hl 3 rfl) ?_
          refine lv_iload_n hx hb dX10_thin_21 rfl (lv_at hl 4 rfl) ?_
          obtain ⟨hPc, hDc, hFc, hI1⟩ := zi_part (cx := [_, _, _, _, _, _, _, _, _, _, _, _, _, _, _, _, _, _, _, _]) hP hD hS hA [1, 2, 3, 4, 5, 6, 7, 8, 9, 10, 11, 12, 13, 14, 15, 16, 17, 18, 19, 20] (by decide +kernel) rfl
          refine zcall (st1 := [.int (-1)]) (va_runV (As := [.ref sh, .ref fe, .int lim]) (rest := []) ⟨hx, hb, hml, hown, hts⟩ (k_Law_cornerThatGoes_3 l dC dI cI cZ cF H.size lw dr tg wy br bo aa tx ty nt1 TX1 TY1 rt1 wx wz nw1 WX1 WY1 rw1 dx dy nd1 cd P1 Q1 rd1 d5 d6 d7 d8 e5 e6 e7 e8 AR1 sh fa ft FA fe lo rk9 wd9 tw9 pa9 pb9 lk (kd f0) (st f0) gb9 jt9 (nI wn2) r rx ry n2 cap X2 Y2 (rgK (kd f0).toInt) f0 (.ref fm) L f kd st tn mnj cxj cyj lim (by first | with_reducible assumption | omega) (by first | with_reducible assumption | omega) (hFA) (hIj.2.2.2.2.2.2.2.1) (hvwj) (hwfj) (hIj.2.2.1) (by first | with_reducible assumption | omega) (by first | with_reducible assumption | omega) (hpx2) (rgK_01 _) (by first | with_reducible assumption | omega) (by first | with_reducible assumption | omega) (h3)) (csV_78 hts rfl rfl ⟨Nat.le_of_ble_eq_true rfl, Nat.le_of_ble_eq_true rfl⟩) (zPV2 (q0 := 0) (ci := 3) hPc hDc hK hXN rfl rfl) rfl rfl hl.1 rfl (lv_room (Nat.le_of_ble_eq_true rfl)) dX10_thin_22 ⟨Nat.le_of_ble_eq_true rfl, Nat.le_of_ble_eq_true rfl⟩) hS hFc hFc rfl (fun t H locs ht hB hk1 hS => ?_)
          obtain ⟨hP1, hD1⟩ := hB
          rw [ht] at hP1
          replace hP := z0 hP hD hk1 hP1 hI1
          clear hk1 hPc hDc hFc hP1 hD1 ht hI1
          refine lv_istore (lv' := [(5, .int (-1)), (4, .int (nI i5)), (3, .int (nI w3)), (0, .ref x), (1, .ref fe), (2, .int lim)]) hx hb dX10_thin_25 hl (Nat.le_of_ble_eq_true rfl) rfl (fun ls hl => ?_)
          refine lv_iload hx hb dX10_thin_27 (lv_at hl 0 rfl) ?_
          refine lv_iconst (v := (-1)) hx hb dX10_thin_29 rfl ?_
          refine lv_icmp_ne (tgt := 36) hx hb dX10_thin_30 rfl (fun c_3 => ?_) (fun c_3 => ?_)
          · exact absurd (by decide) c_3
          · refine lv_goto (tgt := 51) hx hb dX10_thin_33 rfl ?_
            have hz9 := pl_no hplj (hno3 LM)
            refine lv_iload_n hx hb dX10_thin_51 rfl (lv_at hl 2 rfl) ?_
            obtain ⟨z0, z1, z2, z3, z4⟩ := hz9
            obtain ⟨hP9, hD9⟩ := zu_part (cx := [(oc8 x (.ref sh) (.ref lw) (.ref ro) (.ref bq) (.ref bp) (.ref dq) (.ref dp) (.ref lv) (.ref sl) ds sd ul su), (oc3 lw (.ref dr) (.ref tg) (.ref wy) (.ref br) (.ref bo) (.ref aa)), (oc6 tg (.ref tx) (.ref ty) (nI nt1) rt1), (oa tx cI 3 TX1), (oa ty cI 3 TY1), (oc6 wy (.ref wx) (.ref wz) (nI nw1) rw1), (oa wx cI 2 WX1), (oa wz cI 2 WY1), (oc6 dr (.ref dx) (.ref dy) (nI nd1) rd1), (oa dx cI cd P1), (oa dy cI cd Q1), (oc0 br d5 d6 d7 d8), (oc0 bo e5 e6 e7 e8), (oa aa cI 40 AR1), (oc7 sh (.ref fa) (nI ft)), (oq fa cF 200 FA), (oc1 fe rk9 wd9 tw9 pa9 pb9 (.ref lo) (.ref lk) (.ref fm)), (oc4 lk (kd f0) (st f0) (.ref r) gb9 jt9 (nI wn2)), (oc6 r (.ref rx) (.ref ry) (nI n2) (rgK (kd f0).toInt)), (oa rx cI cap X2), (oa ry cI cap Y2), (oc6 lo (.ref lx) (.ref ly) (nI lc2) 0), (oa lx cI cl9 LX2), (oa ly cI cl9 LY2)]) hP hD [true, true, true, true, true, true, true, true, true, true, true, true, true, true, true, true, true, true, true, true, true, true, true, true] rfl rfl
            have hE9 : (([(oc8 x (.ref sh) (.ref lw) (.ref ro) (.ref bq) (.ref bp) (.ref dq) (.ref dp) (.ref lv) (.ref sl) ds sd ul su), (oc3 lw (.ref dr) (.ref tg) (.ref wy) (.ref br) (.ref bo) (.ref aa)), (oc6 tg (.ref tx) (.ref ty) (nI nt1) rt1), (oa tx cI 3 TX1), (oa ty cI 3 TY1), (oc6 wy (.ref wx) (.ref wz) (nI nw1) rw1), (oa wx cI 2 WX1), (oa wz cI 2 WY1), (oc6 dr (.ref dx) (.ref dy) (nI nd1) rd1), (oa dx cI cd P1), (oa dy cI cd Q1), (oc0 br d5 d6 d7 d8), (oc0 bo e5 e6 e7 e8), (oa aa cI 40 AR1), (oc7 sh (.ref fa) (nI ft)), (oq fa cF 200 FA), (oc1 fe rk9 wd9 tw9 pa9 pb9 (.ref lo) (.ref lk) (.ref fm)), (oc4 lk (kd f0) (st f0) (.ref r) gb9 jt9 (nI wn2)), (oc6 r (.ref rx) (.ref ry) (nI n2) (rgK (kd f0).toInt)), (oa rx cI cap X2), (oa ry cI cap Y2), (oc6 lo (.ref lx) (.ref ly) (nI lc2) 0), (oa lx cI cl9 LX2), (oa ly cI cl9 LY2)] ++ va_pl L f) : va_W) = ([(oc8 x (.ref sh) (.ref lw) (.ref ro) (.ref bq) (.ref bp) (.ref dq) (.ref dp) (.ref lv) (.ref sl) ds sd ul su), (oc3 lw (.ref dr) (.ref tg) (.ref wy) (.ref br) (.ref bo) (.ref aa)), (oc6 tg (.ref tx) (.ref ty) (nI nt1) rt1), (oa tx cI 3 TX1), (oa ty cI 3 TY1), (oc6 wy (.ref wx) (.ref wz) (nI nw1) rw1), (oa wx cI 2 WX1), (oa wz cI 2 WY1), (oc6 dr (.ref dx) (.ref dy) (nI nd1) rd1), (oa dx cI cd P1), (oa dy cI cd Q1), (oc0 br d5 d6 d7 d8), (oc0 bo e5 e6 e7 e8), (oa aa cI 40 AR1), (oc7 sh (.ref fa) (nI ft)), (oq fa cF 200 FA), (oc1 fe rk9 wd9 tw9 pa9 pb9 (.ref lo) (.ref lk) (.ref fm)), (oc4 lk (kd f0) (st f0) (.ref r) gb9 jt9 (nI (wn + m9))), (oc6 r (.ref rx) (.ref ry) (nI n1) (rgK (kd f0).toInt)), (oa rx cI cap X2), (oa ry cI cap Y2), (oc6 lo (.ref lx) (.ref ly) (nI lc2) 0), (oa lx cI cl9 LX2), (oa ly cI cl9 LY2)] ++ va_pl L f) := by rw [z4, show wn2 = wn + m9 by omega]
            rw [hE9] at hP9 hD9
            rw [hQ9]
            exact W.iret (v := nI w3) hx hb hr (fun t ht hW => ⟨⟨congrArg (fun z => Outcome.returned (some (Value.int z))) (show (nI w3 : Int32) = nI m9 from zn_eq (by omega)), nt1, TX1, TY1, rt1, nw1, WX1, WY1, rw1, nd1, P1, Q1, rd1, d5, d6, d7, d8, e5, e6, e7, e8, AR1, X2, Y2, LX2, LY2, lc2, (fun j hj => by rw [z2, z3]; exact hXj j (by omega)), (by omega), by rw [ht]; exact hP9, hD9⟩, hS.F ht⟩) hS.2.2 dX10_thin_52
        · skip
          refine lv_aload_n hx hb dX10_thin_16 rfl (lv_at hl 2 rfl) ?_
          refine va_get (D := (dC, dI)) (ci := 8) (v := .ref sh) (C := RX10) (T := TX10) (N := 13) hx hb hts inX10 hown hK hP 0 rfl rfl 0 (Nat.le_of_ble_eq_true rfl) (hts _ mw_309) (fun _ h9 => h9) rfl dX10_thin_17 ?_
          refine lv_aload_n hx hb dX10_thin_20 rfl (lv_at hl 3 rfl) ?_
          refine lv_iload_n hx hb dX10_thin_21 rfl (lv_at hl 4 rfl) ?_
          obtain ⟨hPc, hDc, hFc⟩ := zo_part (cx := [_, _, _, _, _, _, _, _, _, _, _, _, _, _, _, _, _, _, _, _]) hP hD hS hA [1, 2, 3, 4, 5, 6, 7, 8, 9, 10, 11, 12, 13, 14, 15, 16, 17, 18, 19, 20] (by decide +kernel) rfl
          refine zcalle (va_runV (As := [.ref sh, .ref fe, .int lim]) (rest := []) ⟨hx, hb, hml, hown, hts⟩ (k_Law_cornerThatGoes l dC dI cI cZ cF H.size lw dr tg wy br bo aa tx ty nt1 TX1 TY1 rt1 wx wz nw1 WX1 WY1 rw1 dx dy nd1 cd P1 Q1 rd1 d5 d6 d7 d8 e5 e6 e7 e8 AR1 sh fa ft FA fe lo rk9 wd9 tw9 pa9 pb9 lk (kd f0) (st f0) gb9 jt9 (nI wn2) r rx ry n2 cap X2 Y2 (rgK (kd f0).toInt) f0 (.ref fm) L f kd st tn mnj cxj cyj lim (by first | with_reducible assumption | omega) (by first | with_reducible assumption | omega) (hFA) (hIj.2.2.2.2.2.2.2.1) (hvwj) (hwfj) (hIj.2.2.1) (by first | with_reducible assumption | omega) (by first | with_reducible assumption | omega) (hpx2) (rgK_01 _) (by first | with_reducible assumption | omega) (by first | with_reducible assumption | omega) (h3)) (csV_78 hts rfl rfl ⟨Nat.le_of_ble_eq_true rfl, Nat.le_of_ble_eq_true rfl⟩) (zPV2 (q0 := 0) (ci := 3) hPc hDc hK hXN rfl rfl) rfl rfl hl.1 rfl (lv_room (Nat.le_of_ble_eq_true rfl)) dX10_thin_22 ⟨Nat.le_of_ble_eq_true rfl, Nat.le_of_ble_eq_true rfl⟩) hS hFc hFc (fun v9 t H locs ht hB hk1 hS => ?_)
          obtain ⟨zb5, nt6, TX6, TY6, rt6, nw6, WX6, WY6, rw6, nd6, P6, Q6, rd6, g06, g16, g26, g36, g46, g56, g66, g76, AR6, rfl, hbs5, hP1, hD1⟩ := hB
          refine W.eq (g2 := F0 m 25 ls [.int zb5]) rfl ?_
          rw [ht] at hP1
          obtain ⟨hP, hD⟩ := znP (W2 := [_, _, (oc6 tg (.ref tx) (.ref ty) (nI nt6) rt6), (oa tx cI 3 TX6), (oa ty cI 3 TY6), (oc6 wy (.ref wx) (.ref wz) (nI nw6) rw6), (oa wx cI 2 WX6), (oa wz cI 2 WY6), (oc6 dr (.ref dx) (.ref dy) (nI nd6) rd6), (oa dx cI cd P6), (oa dy cI cd Q6), (oc0 br g06 g16 g26 g36), (oc0 bo g46 g56 g66 g76), (oa aa cI 40 AR6), _, _, _, _, _, _, _, _, _, _]) hP hD hk1 hFc hP1 hD1 zl_41 zl_42 zl_42 zl_41 (by decide +kernel) rfl rfl rfl rfl rfl
          clear hk1 hPc hDc hFc hP1 hD1 ht
          refine lv_istore (lv' := [(5, .int zb5), (4, .int (nI i5)), (3, .int (nI w3)), (0, .ref x), (1, .ref fe), (2, .int lim)]) hx hb dX10_thin_25 hl (Nat.le_of_ble_eq_true rfl) rfl (fun ls hl => ?_)
          refine lv_iload hx hb dX10_thin_27 (lv_at hl 0 rfl) ?_
          refine lv_iconst (v := (-1)) hx hb dX10_thin_29 rfl ?_
          refine lv_icmp_ne (tgt := 36) hx hb dX10_thin_30 rfl (fun c_4 => ?_) (fun c_4 => ?_)
          · have c_4 : ¬ zb5.toInt = (-1) := zc_ne rfl rfl c_4
            obtain ⟨k5, hz5, hbest⟩ := (thB hIj (by omega) hL hXj hr3 hwfj hbs5).resolve_left (fun h9 => by omega)
            obtain ⟨m8, hm8, hplr⟩ := pl_go hplj hbest
            have hk5 := hbest.1
            refine lv_aload_n hx hb dX10_thin_36 rfl (lv_at hl 4 rfl) ?_
            refine lv_iload hx hb dX10_thin_37 (lv_at hl 0 rfl) ?_
            refine zz_i (v := nI k5) (hz5) ?_
            obtain ⟨hPc, hDc, hFc⟩ := zo_sub (wc := [_, _, _, _, _, _, _, _]) hP hD hS hA [16, 17, 18, 19, 20, 21, 22, 23] (by decide +kernel) rfl
            refine zcall (st1 := []) (va_runV (As := [.int (nI k5)]) (rest := []) ⟨hx, hb, hml, hown, hts⟩ (k_Feature_losef l dC dI cI cZ cF H.size fe lo rk9 wd9 tw9 pa9 pb9 lk (kd f0) (st f0) gb9 jt9 fm k5 wn2 r rx ry n2 cap X2 Y2 (rgK (kd f0).toInt) lx ly lc2 cl9 LX2 LY2 (by first | with_reducible assumption | omega) (by first | with_reducible assumption | omega) (by first | with_reducible assumption | omega) (by first | with_reducible assumption | omega) (by first | with_reducible assumption | omega) (rgK_01 _)) (csV_79 hts rfl rfl ⟨Nat.le_of_ble_eq_true rfl, Nat.le_of_ble_eq_true rfl⟩) (zPV2 (q0 := 0) (ci := 1) hPc hDc hK hXN rfl rfl) rfl rfl hl.1 rfl (lv_room (Nat.le_of_ble_eq_true rfl)) dX10_thin_39 ⟨Nat.le_of_ble_eq_true rfl, Nat.le_of_ble_eq_true rfl⟩) hS hFc hFc rfl (fun t H locs ht hB hk1 hS => ?_)
            obtain ⟨X5, Y5, hlo5, hhi5, hP1, hD1⟩ := hB
            rw [ht] at hP1
            obtain ⟨hP, hD⟩ := znQ (W2 := [_, _, _, _, _, _, _, _, _, _, _, _, _, _, _, _, _, (oc4 lk (kd f0) (st f0) (.ref r) gb9 jt9 (nI (wn2 + 1))), (oc6 r (.ref rx) (.ref ry) (nI (n2 - 1)) (rgK (kd f0).toInt)), (oa rx cI cap X5), (oa ry cI cap Y5), (oc6 lo (.ref lx) (.ref ly) (nI (wn2 + 1)) 0), (oa lx cI cl9 (upd LX2 wn2 (X2 k5))), (oa ly cI cl9 (upd LY2 wn2 (Y2 k5)))]) hP hD hk1 hFc hP1 hD1 zl_43 zl_44 zl_45 zl_43 (by decide +kernel) rfl rfl rfl rfl rfl
            clear hk1 hPc hDc hFc hP1 hD1 ht
            refine lv_iinc (v := nI (w3 + 1)) (lv' := [(3, .int (nI (w3 + 1))), (5, .int zb5), (4, .int (nI i5)), (0, .ref x), (1, .ref fe), (2, .int lim)]) hx hb dX10_thin_42 hl (k := 2) rfl (nI_add w3 1) (Nat.le_of_ble_eq_true rfl) rfl (fun ls hl => ?_)
            refine lv_iinc (v := nI (i5 + 1)) (lv' := [(4, .int (nI (i5 + 1))), (3, .int (nI (w3 + 1))), (5, .int zb5), (0, .ref x), (1, .ref fe), (2, .int lim)]) hx hb dX10_thin_45 hl (k := 2) rfl (nI_add i5 1) (Nat.le_of_ble_eq_true rfl) rfl (fun ls hl => ?_)
            refine lv_goto (tgt := 5) hx hb dX10_thin_48 rfl ?_
            exact ih_5 (i5 + 1) (w3 + 1) m8 (n2 - 1) (wn2 + 1) (wn2 + 1) X5 Y5 (upd LX2 wn2 (X2 k5)) (upd LY2 wn2 (Y2 k5)) (upd mnj f0 (nI (n2 - 1))) (shp f0 k5 (n2 - 1) cxj) (shp f0 k5 (n2 - 1) cyj) nt6 TX6 TY6 rt6 nw6 WX6 WY6 rw6 nd6 P6 Q6 rd6 g06 g16 g26 g36 g46 g56 g66 g76 AR6 H locs ls (by first | with_reducible assumption | omega) (thI_s hIj hbest) (hplr) (cut_row hXj hlo5 hhi5 hbest.1) (othE_s hoj (by first | with_reducible assumption | omega)) (by first | with_reducible assumption | omega) (by first | with_reducible assumption | omega) (by first | with_reducible assumption | omega) hP hD hS (lv_sub hl [0, 1, 3, 4, 5] rfl)
          · have c_4 : zb5.toInt = (-1) := zc_eq rfl rfl c_4
            refine lv_goto (tgt := 51) hx hb dX10_thin_33 rfl ?_
            have hz9 := pl_no hplj (by rcases thB hIj (by omega) hL hXj hr3 hwfj hbs5 with h9 | ⟨k9, h9, h8⟩; exact h9.2; exact absurd (show (zb5.toInt) = -1 by omega) (by rw [h9, nI_toInt (by have := h8.1; omega)]; omega))
            refine lv_iload_n hx hb dX10_thin_51 rfl (lv_at hl 2 rfl) ?_
            obtain ⟨z0, z1, z2, z3, z4⟩ := hz9
            obtain ⟨hP9, hD9⟩ := zu_part (cx := [(oc8 x (.ref sh) (.ref lw) (.ref ro) (.ref bq) (.ref bp) (.ref dq) (.ref dp) (.ref lv) (.ref sl) ds sd ul su), (oc3 lw (.ref dr) (.ref tg) (.ref wy) (.ref br) (.ref bo) (.ref aa)), (oc6 tg (.ref tx) (.ref ty) (nI nt6) rt6), (oa tx cI 3 TX6), (oa ty cI 3 TY6), (oc6 wy (.ref wx) (.ref wz) (nI nw6) rw6), (oa wx cI 2 WX6), (oa wz cI 2 WY6), (oc6 dr (.ref dx) (.ref dy) (nI nd6) rd6), (oa dx cI cd P6), (oa dy cI cd Q6), (oc0 br g06 g16 g26 g36), (oc0 bo g46 g56 g66 g76), (oa aa cI 40 AR6), (oc7 sh (.ref fa) (nI ft)), (oq fa cF 200 FA), (oc1 fe rk9 wd9 tw9 pa9 pb9 (.ref lo) (.ref lk) (.ref fm)), (oc4 lk (kd f0) (st f0) (.ref r) gb9 jt9 (nI wn2)), (oc6 r (.ref rx) (.ref ry) (nI n2) (rgK (kd f0).toInt)), (oa rx cI cap X2), (oa ry cI cap Y2), (oc6 lo (.ref lx) (.ref ly) (nI lc2) 0), (oa lx cI cl9 LX2), (oa ly cI cl9 LY2)]) hP hD [true, true, true, true, true, true, true, true, true, true, true, true, true, true, true, true, true, true, true, true, true, true, true, true] rfl rfl
            have hE9 : (([(oc8 x (.ref sh) (.ref lw) (.ref ro) (.ref bq) (.ref bp) (.ref dq) (.ref dp) (.ref lv) (.ref sl) ds sd ul su), (oc3 lw (.ref dr) (.ref tg) (.ref wy) (.ref br) (.ref bo) (.ref aa)), (oc6 tg (.ref tx) (.ref ty) (nI nt6) rt6), (oa tx cI 3 TX6), (oa ty cI 3 TY6), (oc6 wy (.ref wx) (.ref wz) (nI nw6) rw6), (oa wx cI 2 WX6), (oa wz cI 2 WY6), (oc6 dr (.ref dx) (.ref dy) (nI nd6) rd6), (oa dx cI cd P6), (oa dy cI cd Q6), (oc0 br g06 g16 g26 g36), (oc0 bo g46 g56 g66 g76), (oa aa cI 40 AR6), (oc7 sh (.ref fa) (nI ft)), (oq fa cF 200 FA), (oc1 fe rk9 wd9 tw9 pa9 pb9 (.ref lo) (.ref lk) (.ref fm)), (oc4 lk (kd f0) (st f0) (.ref r) gb9 jt9 (nI wn2)), (oc6 r (.ref rx) (.ref ry) (nI n2) (rgK (kd f0).toInt)), (oa rx cI cap X2), (oa ry cI cap Y2), (oc6 lo (.ref lx) (.ref ly) (nI lc2) 0), (oa lx cI cl9 LX2), (oa ly cI cl9 LY2)] ++ va_pl L f) : va_W) = ([(oc8 x (.ref sh) (.ref lw) (.ref ro) (.ref bq) (.ref bp) (.ref dq) (.ref dp) (.ref lv) (.ref sl) ds sd ul su), (oc3 lw (.ref dr) (.ref tg) (.ref wy) (.ref br) (.ref bo) (.ref aa)), (oc6 tg (.ref tx) (.ref ty) (nI nt6) rt6), (oa tx cI 3 TX6), (oa ty cI 3 TY6), (oc6 wy (.ref wx) (.ref wz) (nI nw6) rw6), (oa wx cI 2 WX6), (oa wz cI 2 WY6), (oc6 dr (.ref dx) (.ref dy) (nI nd6) rd6), (oa dx cI cd P6), (oa dy cI cd Q6), (oc0 br g06 g16 g26 g36), (oc0 bo g46 g56 g66 g76), (oa aa cI 40 AR6), (oc7 sh (.ref fa) (nI ft)), (oq fa cF 200 FA), (oc1 fe rk9 wd9 tw9 pa9 pb9 (.ref lo) (.ref lk) (.ref fm)), (oc4 lk (kd f0) (st f0) (.ref r) gb9 jt9 (nI (wn + m9))), (oc6 r (.ref rx) (.ref ry) (nI n1) (rgK (kd f0).toInt)), (oa rx cI cap X2), (oa ry cI cap Y2), (oc6 lo (.ref lx) (.ref ly) (nI lc2) 0), (oa lx cI cl9 LX2), (oa ly cI cl9 LY2)] ++ va_pl L f) := by rw [z4, show wn2 = wn + m9 by omega]
            rw [hE9] at hP9 hD9
            rw [hQ9]
            exact W.iret (v := nI w3) hx hb hr (fun t ht hW => ⟨⟨congrArg (fun z => Outcome.returned (some (Value.int z))) (show (nI w3 : Int32) = nI m9 from zn_eq (by omega)), nt6, TX6, TY6, rt6, nw6, WX6, WY6, rw6, nd6, P6, Q6, rd6, g06, g16, g26, g36, g46, g56, g66, g76, AR6, X2, Y2, LX2, LY2, lc2, (fun j hj => by rw [z2, z3]; exact hXj j (by omega)), (by omega), by rw [ht]; exact hP9, hD9⟩, hS.F ht⟩) hS.2.2 dX10_thin_52
  exact hl_5 _ 0 0 m9 n wn ln9 X Y LX LY mn cx cy nt TX TY rt nw WX WY rw nd P Q rd b1 b2 b3 b4 b5 b6 b7 b8 AR s.heap [] ls (Nat.lt_succ_self _) (hI) (hpl) (hX) (othE_0 _ _ _ _) (by first | with_reducible assumption | omega) (by first | with_reducible assumption | omega) (by first | with_reducible assumption | omega) hP hD hS (lv_sub hl [0, 1, 2, 3, 4] rfl)
end
section
/-! the list of steps: what its methods want of the start; rows for its instructions -/
abbrev zTyO (cI cZ cF cO : ClassId) : List (ClassId × FieldType) := [(cI, .int), (cZ, .boolean), (cF, .object "ScaleShop$Feature"), (cO, .object "java/lang/Object")]
def zE0 (e0 : Nat) (A : Nat → Prop) (U : State) (H : Heap) : Prop := ∃ cell : Cell, H[e0]? = some cell ∧ cell.slots.size = 0 ∧ U.isArrayOf cell (.object "java/lang/Object") ∧ ¬ A e0
def zXL (e0 mi : Nat) (A : Nat → Prop) (U : State) : Prop := zXN U ∧ va_Z "java/util/ArrayList" "DEFAULTCAPACITY_EMPTY_ELEMENTDATA" "[Ljava/lang/Object;" (.ref e0) A U U.heap ∧ va_Dc U ∧ va_Mi "[Ljava/lang/Object;" mi U ∧ zE0 e0 A U U.heap
theorem zE0_k {e0 : Nat} {A A1 : Nat → Prop} {s U : State} {H : Heap} {locs : List Loc} (h : zE0 e0 A s s.heap) (hS : va_S A s.heap H locs) (hF : ∀ q, A1 q → A q) (hW : s.vm.Alike U.vm) : zE0 e0 A1 U H := by
  obtain ⟨cell, h1, h2, h3, h4⟩ := h
  exact ⟨cell, by rw [hS.2.1 e0 (Array.getElem?_eq_some_iff.mp h1).1 h4]; exact h1, h2, State.isArrayOf_alike hW h3, fun g => h4 (hF e0 g)⟩
theorem zXL_c {e0 mi : Nat} {A : Nat → Prop} (a : Array Value) (U : State) (g : JFrame) (mk : MethodId) (h : zXL e0 mi A U) : zXL e0 mi A (U.calling g mk a) :=
  ⟨zXN_c a U g mk h.1, va_Z.moved (u := U) (U := U.calling g mk a) (Vm.Alike.refl U.vm) h.2.1, va_Dc.moved (u := U) (U := U.calling g mk a) (Vm.Alike.refl U.vm) h.2.2.1, va_Mi.moved (u := U) (U := U.calling g mk a) (Vm.Alike.refl U.vm) h.2.2.2.1, zE0_k (U := U.calling g mk a) h.2.2.2.2 (va_S.rf : va_S A U.heap U.heap []) (fun _ h => h) (Vm.Alike.refl U.vm)⟩
theorem zXL_at {e0 mi : Nat} {A A1 : Nat → Prop} {s U : State} {H : Heap} {locs : List Loc} (h : zXL e0 mi A s) (hS : va_S A s.heap H locs) (hF : ∀ q, A1 q → A q) (hU : U.heap = H) (hW : s.WarmedH U.vm) : zXL e0 mi A1 U := by
  refine ⟨zXN_w hW h.1, ?_, va_Dc.moved hW.alike h.2.2.1, va_Mi.moved hW.alike h.2.2.2.1, ?_⟩
  · rw [hU]; exact ((va_Z.kept h.2.1 hS.2.1).narrow hF).moved hW.alike
  · rw [hU]; exact zE0_k h.2.2.2.2 hS hF hW.alike
theorem zPSL {s : State} {H : Heap} {D : va_G} {cl : List vw_C} {tys : List (ClassId × FieldType)} {w : va_W} {A A1 A2 : Nat → Prop} {av : List Value} {e0 mi : Nat} {locs : List Loc} (hP : va_P D cl w H) (hD : va_D A1 w) (hK : va_K D cl tys s) (hX : zXL e0 mi A s) (hS : va_S A s.heap H locs) (hF : ∀ q, A2 q → A q) : PreS s H (va_Pc av (zPre D cl tys w H.size (zXL e0 mi A2))) av :=
  ⟨zBlind zXL_c, zAt hP hD hK (fun _ hU hW => zXL_at hX hS hF hU hW)⟩
theorem zPVL {s : State} {H : Heap} {D : va_G} {cl : List vw_C} {tys : List (ClassId × FieldType)} {w : va_W} {A A1 A2 : Nat → Prop} {b q0 ci : Nat} {C : String} {T : u_T} {N : Nat} {fs : List Value} {As : List Value} {e0 mi : Nat} {locs : List Loc} (hP : va_P D cl w H) (hD : va_D A1 w) (hK : va_K D cl tys s) (hX : zXL e0 mi A s) (hS : va_S A s.heap H locs) (hF : ∀ q, A2 q → A q) (hc : cl[ci]? = some (C, T, N)) (he : w[q0]? = some (b, .inr (ci, fs))) : PreV s H C b (va_Pc (.ref b :: As) (zPre D cl tys w H.size (zXL e0 mi A2))) As :=
  ⟨zBlind zXL_c, va_recv hK hP hc he, zAt hP hD hK (fun _ hU hW => zXL_at hX hS hF hU hW)⟩
section LS
variable {p : Program} {l : Launch} {e₀ : Env} {R : Room} {s : State} {m : MethodId} {args : Array Value} {below : List Frame} {meth : Method} {c : Code} {H : Heap} {locs : List Loc} {cells slots : Nat} {Q : State → Prop}
variable {cc : ByteArray} {pc : Nat} {ls : Array Slot} {rest : List Value} {D : va_G} {cl : List vw_C} {A : Nat → Prop} {a : Nat} {tys : List (ClassId × FieldType)} {ws : va_W} {H0 : Heap}
theorem z_alen0 {e0 : Nat} (hexec : p.tables.exec = Jvm.exec) (hb : c.code = cc) (hE : zE0 e0 A s s.heap) (hS : va_S A s.heap H locs) (hdg : decode cc pc = .ok (.arraylength, 1))
    (kk : W p l e₀ R s m args below meth c H locs cells slots Q (F0 m (pc + 1) ls (.int 0 :: rest))) : W p l e₀ R s m args below meth c H locs cells slots Q (F0 m pc ls (.ref e0 :: rest)) := by
  obtain ⟨cell, h1, h2, h3, h4⟩ := hE
  exact W.alen (n := 0) hexec hb (by rw [hS.2.1 e0 (Array.getElem?_eq_some_iff.mp h1).1 h4]; exact h1) h3 (by rw [h2]; rfl) rfl rfl hdg kk
theorem z_newq (hexec : p.tables.exec = Jvm.exec) (hb : c.code = cc) {own C : String} {index : Nat} (hown : s.vm.findClass own = some m.cls) (hclink : (Cond.classLink own index C).before args s = true) (hover : va_AO C s) (hK : va_K D cl tys s) (hP : va_P D cl ws H) (hD : va_D A ws) (hS : va_S A H0 H locs) (hA : ∀ q, H0.size ≤ q → A q)
    {n : Int32} {N' : Nat} {cA : ClassId} (t0 : Nat) (ht : tys[t0]? = some (cA, .object C)) (hn : ¬ n < 0) (hN : n.toNatClampNeg = N') (hbytes : N' * 4 ≤ 536870912) (hcells : cells + 1 ≤ R.cells) (hslots : slots + N' ≤ R.slots) (hdg : decode cc pc = .ok (.anewarray index, 3))
    (kk : ∀ (q : Nat) (H1 : Heap), va_P D cl (ws ++ [(q, .inl (cA, N', .inr (.inr (.inr (.inr (fun _ => none))))))]) H1 → va_D A (ws ++ [(q, .inl (cA, N', .inr (.inr (.inr (.inr (fun _ => none))))))]) → va_S A H0 H1 locs →
      W p l e₀ R s m args below meth c H1 locs (cells + 1) (slots + N') Q (F0 m (pc + 3) ls (.ref q :: rest))) : W p l e₀ R s m args below meth c H locs cells slots Q (F0 m pc ls (.int n :: rest)) := by
  refine va_newq hexec hb hown hclink hover hK hP hD hS hA hn hN hbytes hcells hslots hdg (fun q cB H1 hK1 hP1 hD1 hS1 => ?_)
  have e1 : (tys ++ [(cB, .object C)])[tys.length]? = some (cB, FieldType.object C) := by rw [List.getElem?_append_right (Nat.le_refl _)]; simp
  have e2 : cB = cA := zz_sameArr (hK1.2 _ _ e1).2 (hK.2 t0 _ ht).2
  subst e2
  exact kk q H1 hP1 hD1 hS1
theorem z_aastO (hexec : p.tables.exec = Jvm.exec) (hb : c.code = cc) (hK : va_K D cl tys s) (hP : va_P D cl ws H) (hD : va_D A ws) (hS : va_S A H0 H locs) (q0 t0 qk ci : Nat) {E : String} {cA : ClassId} {r : vw_C} {n v : Nat} {vs : List Value} {f : Nat → Option Nat} (ha : ws[q0]? = some (a, .inl (cA, n, .inr (.inr (.inr (.inr f)))))) (ht : tys[t0]? = some (cA, .object E)) (hca : va_Nw (.castable r.1 E) s) (hv : ws[qk]? = some (v, .inr (ci, vs))) (hc : cl[ci]? = some r) {i : Int32} {e : Nat} (hi : i = nI e) (hlt : e < n) (hn : n < 2147483648) (hdg : decode cc pc = .ok (.aastore, 1))
    (kk : ∀ (H1 : Heap) (locs1 : List Loc), va_P D cl (ws.set q0 (a, .inl (cA, n, .inr (.inr (.inr (.inr (va_up f e (some v)))))))) H1 → va_D A (ws.set q0 (a, .inl (cA, n, .inr (.inr (.inr (.inr (va_up f e (some v)))))))) → va_S A H0 H1 locs1 → W p l e₀ R s m args below meth c H1 locs1 cells slots Q (F0 m (pc + 1) ls rest)) : W p l e₀ R s m args below meth c H locs cells slots Q (F0 m pc ls (.ref v :: .int i :: .ref a :: rest)) := by
  subst hi
  refine va_astqO hexec hb hK hP hD hS q0 t0 qk ci ha ht hca hv hc (vp_in_nI hlt hn) hdg (fun H1 locs1 h1 h2 h3 => ?_)
  rw [nI_clamp (by omega)] at h1 h2; exact kk H1 locs1 h1 h2 h3
theorem z_aastN (hexec : p.tables.exec = Jvm.exec) (hb : c.code = cc) (hK : va_K D cl tys s) (hP : va_P D cl ws H) (hD : va_D A ws) (hS : va_S A H0 H locs) (q0 t0 : Nat) {C : String} {cA : ClassId} {n : Nat} {f : Nat → Option Nat} (ha : ws[q0]? = some (a, .inl (cA, n, .inr (.inr (.inr (.inr f)))))) (ht : tys[t0]? = some (cA, .object C)) {i : Int32} {e : Nat} (hi : i = nI e) (hlt : e < n) (hn : n < 2147483648) (hdg : decode cc pc = .ok (.aastore, 1))
    (kk : ∀ (H1 : Heap) (locs1 : List Loc), va_P D cl (ws.set q0 (a, .inl (cA, n, .inr (.inr (.inr (.inr (va_up f e none))))))) H1 → va_D A (ws.set q0 (a, .inl (cA, n, .inr (.inr (.inr (.inr (va_up f e none))))))) → va_S A H0 H1 locs1 → W p l e₀ R s m args below meth c H1 locs1 cells slots Q (F0 m (pc + 1) ls rest)) : W p l e₀ R s m args below meth c H locs cells slots Q (F0 m pc ls (.null :: .int i :: .ref a :: rest)) := by
  subst hi
  refine va_astqN hexec hb hK hP hD hS q0 t0 ha ht (vp_in_nI hlt hn) hdg (fun H1 locs1 h1 h2 h3 => ?_)
  rw [nI_clamp (by omega)] at h1 h2; exact kk H1 locs1 h1 h2 h3
theorem z_cellA {cO : ClassId} {x : vp_A} {q0 t0 : Nat} {C nm : String} (hK : va_K D cl tys s) (hP : va_P D cl ws H) (ha : ws[q0]? = some (a, .inl (cO, x))) (ht : tys[t0]? = some (cO, .object C)) (e : "[" ++ (FieldType.object C).toString = nm) : ∃ cell : Cell, H[a]? = some cell ∧ cell.vm.isStatics = false ∧ s.vm.findClass nm = some cell.cls := by
  refine ⟨vp_cell cO x, hP q0 _ ha, ?_, ?_⟩
  · obtain ⟨n, f | f | f | f | f⟩ := x <;> rfl
  · rw [va_nmO (hK.2 t0 _ ht).2 e]
    obtain ⟨n, f | f | f | f | f⟩ := x <;> rfl
theorem z_cellR {i b : Nat} {r : vw_C} {ci : Nat} {vs : List Value} (hK : va_K D cl tys s) (hP : va_at D cl (b, .inr (ci, vs)) H) (hc : cl[ci]? = some r) : ∃ cell : Cell, H[b]? = some cell ∧ cell.vm.isStatics = false ∧ s.vm.findClass r.1 = some cell.cls := by
  obtain ⟨r', hr', cellV, g1, g2, g3, g4⟩ := hP
  cases hr'.symm.trans hc
  exact ⟨cellV, g1, by rw [g3]; rfl, by rw [g2]; exact (hK.1 ci r hc).2.1⟩
end LS
theorem zn_shr {n : Nat} (h : n < 2147483648) : nI n >>> ((1 : Int32) &&& 31) = nI (n / 2) := by
  have k := pk_shrN (n := n) h ((1 : Int32) &&& 31) 1 (by decide)
  rw [Nat.pow_one] at k
  exact k
theorem z_asg {s : State} (h : va_Nw (.castable "ScaleShop$Step" "java/lang/Object") s) : ∀ comp c0 : ClassId, s.vm.findClass "java/lang/Object" = some comp → s.vm.findClass "ScaleShop$Step" = some c0 → s.vm.assignable c0 comp = true := by
  intro comp c0 h1 h2
  obtain ⟨c1, t1, f1, f2, f3⟩ := Cond.castable_spec (va_Nw.use (A := #[]) rfl h)
  cases f1.symm.trans h2
  cases f2.symm.trans h1
  exact f3
section LC
variable {p : Program} {l : Launch} {e₀ : Env} {R : Room} {s : State} {m : MethodId} {args : Array Value} {below : List Frame} {meth : Method} {c : Code} {H : Heap} {locs : List Loc} {cells slots : Nat} {Q : State → Prop}
variable {cc : ByteArray} {pc : Nat} {ls : Array Slot} {rest : List Value} {D : va_G} {cl : List vw_C} {A : Nat → Prop} {a : Nat} {tys : List (ClassId × FieldType)} {ws : va_W} {H0 : Heap}
theorem z_copyq (hexec : p.tables.exec = Jvm.exec) (hb : c.code = cc) (hml : c.maxLocals = ls.size) {own : String} {index : Nat} (hown : s.vm.findClass own = some m.cls) (hlink : (Cond.methodLink own index arraycopyName).before args s = true) (hnat : (Cond.native arraycopyName).before args s = true) (hstat : (Cond.static arraycopyName).before args s = true) (hini : (Cond.initialized "java/lang/System").before args s = true)
    (hK : va_K D cl tys s) (hP : va_P D cl ws H) (hD : va_D A ws) (hS : va_S A H0 H locs) (q0 q1 t0 t1 : Nat) {a0 : Nat} {c0 c1 : ClassId} {n0 n1 : Nat} {f g : Nat → Option Nat} {E0 E1 C : String} (ha0 : ws[q0]? = some (a0, .inl (c0, n0, .inr (.inr (.inr (.inr f)))))) (ha1 : ws[q1]? = some (a, .inl (c1, n1, .inr (.inr (.inr (.inr g)))))) (ht0 : tys[t0]? = some (c0, .object E0)) (ht1 : tys[t1]? = some (c1, .object E1))
    {n : Int32} {nn : Nat} (hn : n = nI nn) (hn1 : nn < 2147483648) (hn2 : 0 ≤ nn) (h4 : nn ≤ n0) (h5 : nn ≤ n1) (hel : ∀ i : Nat, i < nn → ∀ y : Nat, f i = some y → ∃ cellV : Cell, H[y]? = some cellV ∧ cellV.vm.isStatics = false ∧ s.vm.findClass C = some cellV.cls) (hasg : ∀ comp c0 : ClassId, s.vm.findClass E1 = some comp → s.vm.findClass C = some c0 → s.vm.assignable c0 comp = true)
    (hframes : 1 ≤ R.frames) (hlocals : (rest.map fun v => v.category).sum + 24 ≤ R.locals) (hdg : decode cc pc = .ok (.invokestatic index, 3))
    (kk : ∀ (H1 : Heap) (locs1 : List Loc), va_P D cl (ws.set q1 (a, .inl (c1, n1, .inr (.inr (.inr (.inr (va_cpy f g 0 0 nn))))))) H1 → va_D A (ws.set q1 (a, .inl (c1, n1, .inr (.inr (.inr (.inr (va_cpy f g 0 0 nn))))))) → va_S A H0 H1 locs1 → W p l e₀ R s m args below meth c H1 locs1 cells slots Q (F0 m (pc + 3) ls rest)) : W p l e₀ R s m args below meth c H locs cells slots Q (F0 m pc ls (.int n :: .int 0 :: .ref a :: .int 0 :: .ref a0 :: rest)) := by
  subst hn
  have ec : (nI nn).toNatClampNeg = nn := nI_clamp (by omega)
  have e0 : (0 : Int32).toNatClampNeg = 0 := by decide
  have hw : nativeFrameWords "java/lang/System" "arraycopy" 5 ≤ 13 := by decide
  refine va_copyq hexec hb hml hown hlink hnat hstat hini hK hP hD hS q0 q1 t0 t1 ha0 ha1 ht0 ht1 (by decide) (by decide) (nI_pos (by omega)) (by rw [ec, e0]; omega) (by rw [ec, e0]; omega) (fun i hi y hy => hel i (by rw [ec] at hi; exact hi) y (by rw [e0, Nat.zero_add] at hy; exact hy)) hasg hframes (by omega) hdg (fun H1 locs1 h1 h2 h3 => ?_)
  rw [ec, e0] at h1 h2
  exact kk H1 locs1 h1 h2 h3
end LC
theorem z_elS {s : State} {D : va_G} {tys : List (ClassId × FieldType)} {X : va_W} {L : List Nat} {f : Nat → va_E} {H : Heap} {n : Nat} {SA : Nat → Option Nat} (hK : va_K D classes tys s) (hP : va_P D classes (X ++ va_pl L f) H) (h : ∀ i, i < n → ∃ y vs, SA i = some y ∧ y ∈ L ∧ f y = .inr (11, vs)) :
    ∀ i : Nat, i < n → ∀ y : Nat, SA i = some y → ∃ cellV : Cell, H[y]? = some cellV ∧ cellV.vm.isStatics = false ∧ s.vm.findClass "ScaleShop$Step" = some cellV.cls := by
  intro i hi y hy
  obtain ⟨y', vs, h1, h2, h3⟩ := h i hi
  cases h1.symm.trans hy
  have h4 := vaP_mem.mp hP (y, f y) (List.mem_append.mpr (Or.inr (pl_mem.mpr ⟨h2, rfl⟩)))
  rw [h3] at h4
  exact z_cellR (i := 0) hK h4 rfl
theorem mw_acopy : (Jvm.Cond.native ({ cls := "java/lang/System", name := "arraycopy", desc := "(Ljava/lang/Object;ILjava/lang/Object;II)V" } : Jvm.MethodName)) ∈ ws0 := zz_m 488 (by decide +kernel) (by decide +kernel)
theorem mw_getCn : (Jvm.Cond.native ({ cls := "java/lang/Object", name := "getClass", desc := "()Ljava/lang/Class;" } : Jvm.MethodName)) ∈ ws0 := zz_m 850 (by decide +kernel) (by decide +kernel)
theorem mw_same_modCount : (Jvm.Cond.sameField "java/util/ArrayList" "java/util/AbstractList" "modCount" "I") ∈ ws0 := zz_m 300 (by decide +kernel) (by decide +kernel)
theorem mw_getCs : (Jvm.Cond.selects "[Ljava/lang/Object;" ({ cls := "java/lang/Object", name := "getClass", desc := "()Ljava/lang/Class;" } : Jvm.MethodName) ({ cls := "java/lang/Object", name := "getClass", desc := "()Ljava/lang/Class;" } : Jvm.MethodName)) ∈ ws0 := zz_m 1732 (by decide +kernel) (by decide +kernel)
end
section
abbrev zML (l : Launch) (y : MethodName) (cc : ByteArray) (maxL : Nat) (ret : Option FieldType) (R : Room) (av : List Value) (D : va_G) (tys : List (ClassId × FieldType)) (e0 mi : Nat) (w : va_W) (sz : Nat) (v : Option Value) (B : (Nat → Prop) → State → Prop) (mc ms : Nat) : Prop := Met l y (.code y cc maxL ret :: ws0) R (va_Pc av (zPre D classes tys w sz (zXL e0 mi (va_A w sz)))) (zQ v (B (va_A w sz)) (va_A w sz)) mc ms (va_A w sz)
theorem zInL {l : Launch} {y : MethodName} {cc : ByteArray} {maxL : Nat} {ret : Option FieldType} {R : Room} {av : List Value} {D : va_G} {cI cZ cF cO : ClassId} {e0 mi : Nat} {w : va_W} {sz : Nat} {v : Option Value} {B : (Nat → Prop) → State → Prop} {mc ms : Nat} {own : String} {loc : List (Nat × Value)} (hy : plainName y.cls = true) (ho : y.cls = own) (hlen : Nat.ble (lg_sl av).length maxL = true) (hloc : lv_args 0 av = loc)
    (k : ∀ (p : Program) (e : Env) (s : State) (m : MethodId) (below : List Frame) (meth : Method) (c : Code), p.tables.exec = Jvm.exec → c.code = cc → meth.sig.returnType = ret → (∀ w9 ∈ ws0, w9.before av.toArray s = true) → s.vm.findClass own = some m.cls → meth.locks = false → c.maxLocals = maxL → meth.name = y.name → ∀ (A : Nat → Prop), (∀ q : Nat, s.heap.size ≤ q → A q) → va_S A s.heap s.heap [] → va_P D classes w s.heap → va_D A w → va_K D classes (zTyO cI cZ cF cO) s → zXL e0 mi A s → zXN s → va_K D classes (zTy cI cZ cF) s → ∀ (Q9 : State → Prop), Q9 = MQ below (zQ v (B A) A) av.toArray s mc ms A → ∀ (ls : Array Slot), lv_has ls maxL loc → W p l e R s m av.toArray below meth c s.heap [] 0 0 Q9 (F0 m 0 ls [])) : zML l y cc maxL ret R av D (zTyO cI cZ cF cO) e0 mi w sz v B mc ms := by
  refine Met.ofW (cc := cc) (maxL := maxL) (ret := ret) hy rfl ?_
  intro p e s m args below meth c s₁ Bd hml hv
  obtain ⟨rfl, hsz, hP, hK, hD0, hXL⟩ := hv
  have hts0 := atoms_spec (ws := .code y cc maxL ret :: ws0) Bd.pre
  subst hsz
  have hl := lv_entry av (n := maxL) (Nat.le_of_ble_eq_true hlen)
  rw [hloc] at hl
  rw [lg_entry_eq]
  exact k p e s m below meth c Bd.exec Bd.bytes Bd.returns (fun w9 h => hts0 w9 (List.mem_cons_of_mem _ h)) (by rw [← ho]; exact findClass_of_methodNamed Bd.named) Bd.notSynchronized hml (name_of_methodNamed Bd.named Bd.method).1 (va_A w s.heap.size) (fun q h => Or.inr h) va_S.rf hP hD0.self hK hXL hXL.1 (hK.sub [0, 1, 2] rfl) _ rfl _ hl
end
section
set_option maxHeartbeats 4000000 in
set_option maxRecDepth 100000 in
theorem k_J_checkIndex (l : Launch) (dC : Nat → ClassId) (dI : Nat → Nat → Nat) (cI cZ cF : ClassId) (sz : Nat) (i : Nat) (n : Nat) (hi : i < n) (hn : n < 2147483648) : zM l yJ3_checkIndex_8e157 cJ3_checkIndex_8e157 3 (some .int) ({ frames := 0, cells := 0, slots := 0, locals := 0 } : Room) [.int (nI i), .int (nI n), .null] (dC, dI) (zTy cI cZ cF) [] sz (some (.int (nI i))) (fun A t => zPD (dC, dI) classes A [] t.heap) 0 0 := by
  refine zIn (own := "jdk/internal/util/Preconditions") (loc := [(0, .int (nI i)), (1, .int (nI n)), (2, .null)]) rfl rfl rfl rfl (fun p e s m below meth c hx hb hr hts hown hlocks hml hnm9 A hA hS hP hD hK hXN Q9 hQ9 ls hl => ?_)
  refine lv_iload_n hx hb dJ3_checkIndex_8e157_0 rfl (lv_at hl 0 rfl) ?_
  have b9_2 : zlt (i) := show i < 2147483648 by omega
  refine lv_if_lt (tgt := 9) hx hb dJ3_checkIndex_8e157_1 rfl (fun c_1 => ?_) (fun c_1 => ?_)
  · have c_1 : ((i : Nat) : Int) < 0 := zc_lt (nI_toInt b9_2) rfl c_1
    exfalso; omega
  · have c_1 : 0 ≤ ((i : Nat) : Int) := zc_nlt (nI_toInt b9_2) rfl c_1
    refine lv_iload_n hx hb dJ3_checkIndex_8e157_4 rfl (lv_at hl 0 rfl) ?_
    refine lv_iload_n hx hb dJ3_checkIndex_8e157_5 rfl (lv_at hl 1 rfl) ?_
    have b9_4 : zlt (n) := show n < 2147483648 by omega
    refine lv_icmp_lt (tgt := 16) hx hb dJ3_checkIndex_8e157_6 rfl (fun c_3 => ?_) (fun c_3 => ?_)
    · have c_3 : ((i : Nat) : Int) < ((n : Nat) : Int) := zc_lt (nI_toInt b9_2) (nI_toInt b9_4) c_3
      refine lv_iload_n hx hb dJ3_checkIndex_8e157_16 rfl (lv_at hl 0 rfl) ?_
      obtain ⟨hP9, hD9⟩ := zu_sub (wc := []) hP hD [] rfl rfl
      rw [hQ9]
      exact W.iret (v := nI i) hx hb hr (fun t ht hW => ⟨⟨rfl, by rw [ht]; exact hP9, hD9⟩, hS.F ht⟩) hS.2.2 dJ3_checkIndex_8e157_17
    · have c_3 : ((n : Nat) : Int) ≤ ((i : Nat) : Int) := zc_nlt (nI_toInt b9_2) (nI_toInt b9_4) c_3
      exfalso; omega
set_option maxHeartbeats 4000000 in
set_option maxRecDepth 100000 in
theorem k_O_checkIndex (l : Launch) (dC : Nat → ClassId) (dI : Nat → Nat → Nat) (cI cZ cF : ClassId) (sz : Nat) (i : Nat) (n : Nat) (hi : i < n) (hn : n < 2147483648) : zM l yJ15_checkIndex_7cf53 cJ15_checkIndex_7cf53 2 (some .int) ({ frames := 1, cells := 0, slots := 0, locals := 22 } : Room) [.int (nI i), .int (nI n)] (dC, dI) (zTy cI cZ cF) [] sz (some (.int (nI i))) (fun A t => zPD (dC, dI) classes A [] t.heap) 0 0 := by
  refine zIn (own := "java/util/Objects") (loc := [(0, .int (nI i)), (1, .int (nI n))]) rfl rfl rfl rfl (fun p e s m below meth c hx hb hr hts hown hlocks hml hnm9 A hA hS hP hD hK hXN Q9 hQ9 ls hl => ?_)
  refine lv_iload_n hx hb dJ15_checkIndex_7cf53_0 rfl (lv_at hl 0 rfl) ?_
  refine lv_iload_n hx hb dJ15_checkIndex_7cf53_1 rfl (lv_at hl 1 rfl) ?_
  refine lv_null hx hb dJ15_checkIndex_7cf53_2 ?_
  obtain ⟨hPc, hDc, hFc⟩ := zo_sub (wc := []) hP hD hS hA [] rfl rfl
  refine zcall (st1 := [.int (nI i)]) (va_runS (As := [.int (nI i), .int (nI n), .null]) (rest := []) ⟨hx, hb, hml, hown, hts⟩ (k_J_checkIndex l dC dI cI cZ cF s.heap.size i n (by first | with_reducible assumption | omega) (by first | with_reducible assumption | omega)) (csS_85 hts rfl rfl ⟨Nat.le_of_ble_eq_true rfl, Nat.le_of_ble_eq_true rfl⟩) (zPS2 hPc hDc hK hXN) rfl rfl hl.1 rfl (lv_room (Nat.le_of_ble_eq_true rfl)) dJ15_checkIndex_7cf53_3 ⟨Nat.le_of_ble_eq_true rfl, Nat.le_of_ble_eq_true rfl⟩) hS hFc hFc rfl (fun t H locs ht hB hk1 hS => ?_)
  obtain ⟨hP1, hD1⟩ := hB
  rw [ht] at hP1
  obtain ⟨hP, hD⟩ := zk (W2 := []) hP hD [] [] [] [] [] 0 rfl rfl rfl rfl rfl rfl rfl rfl rfl hk1 hFc hP1 hD1
  clear hk1 hPc hDc hFc hP1 hD1 ht
  obtain ⟨hP9, hD9⟩ := zu_sub (wc := []) hP hD [] rfl rfl
  rw [hQ9]
  exact W.iret (v := nI i) hx hb hr (fun t ht hW => ⟨⟨rfl, by rw [ht]; exact hP9, hD9⟩, hS.F ht⟩) hS.2.2 dJ15_checkIndex_7cf53_6
set_option maxHeartbeats 4000000 in
set_option maxRecDepth 100000 in
theorem k_AL_size (l : Launch) (dC : Nat → ClassId) (dI : Nat → Nat → Nat) (cI cZ cF : ClassId) (sz : Nat) (sl : Nat) (ea : Nat) (n9 : Nat) (mc9 : Int32) : zM l yJx4a65c_size_8abf5 cJx4a65c_size_8abf5 1 (some .int) ({ frames := 0, cells := 0, slots := 0, locals := 0 } : Room) [.ref sl] (dC, dI) (zTy cI cZ cF) [(oc10 sl mc9 (.ref ea) (nI n9))] sz (some (.int (nI n9))) (fun A t => zPD (dC, dI) classes A [(oc10 sl mc9 (.ref ea) (nI n9))] t.heap) 0 0 := by
  refine zIn (own := "java/util/ArrayList") (loc := [(0, .ref sl)]) rfl rfl rfl rfl (fun p e s m below meth c hx hb hr hts hown hlocks hml hnm9 A hA hS hP hD hK hXN Q9 hQ9 ls hl => ?_)
  refine lv_aload_n hx hb dJx4a65c_size_8abf5_0 rfl (lv_at hl 0 rfl) ?_
  refine va_get (D := (dC, dI)) (ci := 10) (v := .int (nI n9)) (C := RJx4a65c) (T := TJx4a65c) (N := 3) hx hb hts inJx4a65c hown hK hP 0 rfl rfl 2 (Nat.le_of_ble_eq_true rfl) (hts _ mw_297) (fun _ h9 => h9) rfl dJx4a65c_size_8abf5_1 ?_
  obtain ⟨hP9, hD9⟩ := zu_sub (wc := [_]) hP hD [true] rfl rfl
  rw [hQ9]
  exact W.iret (v := nI n9) hx hb hr (fun t ht hW => ⟨⟨rfl, by rw [ht]; exact hP9, hD9⟩, hS.F ht⟩) hS.2.2 dJx4a65c_size_8abf5_4
set_option maxHeartbeats 4000000 in
set_option maxRecDepth 100000 in
theorem k_AL_elem (l : Launch) (dC : Nat → ClassId) (dI : Nat → Nat → Nat) (cI cZ cF : ClassId) (sz : Nat) (cO : ClassId) (e0 : Nat) (mi : Nat) (sl : Nat) (ea : Nat) (n9 : Nat) (mc9 : Int32) (i : Nat) (cp9 : Nat) (y9 : Nat) (SA : Nat → Option Nat) (hSA : SA i = some y9) (hic : i < cp9) (hcp : cp9 < 2147483648) : zML l yJx4a65c_elementData_915e3 cJx4a65c_elementData_915e3 2 (some (.object "java/lang/Object")) ({ frames := 0, cells := 0, slots := 0, locals := 0 } : Room) [.ref sl, .int (nI i)] (dC, dI) (zTyO cI cZ cF cO) e0 mi [(oc10 sl mc9 (.ref ea) (nI n9)), (oq ea cO cp9 SA)] sz (some (.ref y9)) (fun A t => zPD (dC, dI) classes A [(oc10 sl mc9 (.ref ea) (nI n9)), (oq ea cO cp9 SA)] t.heap) 0 0 := by
  refine zInL (own := "java/util/ArrayList") (loc := [(0, .ref sl), (1, .int (nI i))]) rfl rfl rfl rfl (fun p e s m below meth c hx hb hr hts hown hlocks hml hnm9 A hA hS hP hD hK hXL hXN hK3 Q9 hQ9 ls hl => ?_)
  refine lv_aload_n hx hb dJx4a65c_elementData_915e3_0 rfl (lv_at hl 0 rfl) ?_
  refine va_get (D := (dC, dI)) (ci := 10) (v := .ref ea) (C := RJx4a65c) (T := TJx4a65c) (N := 3) hx hb hts inJx4a65c hown hK hP 0 rfl rfl 1 (Nat.le_of_ble_eq_true rfl) (hts _ mw_296) (fun _ h9 => h9) rfl dJx4a65c_elementData_915e3_1 ?_
  refine lv_iload_n hx hb dJx4a65c_elementData_915e3_4 rfl (lv_at hl 1 rfl) ?_
  have b9_1 : i < cp9 := by omega
  have b9_2 : zlt (cp9) := show cp9 < 2147483648 by omega
  refine z_aald hx hb hK hP 1 3 rfl rfl (e := i) rfl b9_1 b9_2 (v := .ref y9) (by rw [hSA]; rfl) dJx4a65c_elementData_915e3_5 ?_
  obtain ⟨hP9, hD9⟩ := zu_sub (wc := [_, _]) hP hD [true, true] rfl rfl
  rw [hQ9]
  exact W.aret hx hb hr (Or.inl ⟨_, rfl⟩) (Or.inr ⟨_, rfl⟩) (fun t ht hW => ⟨⟨rfl, by rw [ht]; exact hP9, hD9⟩, hS.F ht⟩) hS.2.2 dJx4a65c_elementData_915e3_6
set_option maxHeartbeats 4000000 in
set_option maxRecDepth 100000 in
theorem k_AL_get (l : Launch) (dC : Nat → ClassId) (dI : Nat → Nat → Nat) (cI cZ cF : ClassId) (sz : Nat) (cO : ClassId) (e0 : Nat) (mi : Nat) (sl : Nat) (ea : Nat) (n9 : Nat) (mc9 : Int32) (i : Nat) (cp9 : Nat) (y9 : Nat) (SA : Nat → Option Nat) (hSA : SA i = some y9) (hic : i < cp9) (hcp : cp9 < 2147483648) (hin : i < n9) (hnc : n9 ≤ cp9) : zML l yJx4a65c_get_915e3 cJx4a65c_get_915e3 2 (some (.object "java/lang/Object")) ({ frames := 2, cells := 0, slots := 0, locals := 43 } : Room) [.ref sl, .int (nI i)] (dC, dI) (zTyO cI cZ cF cO) e0 mi [(oc10 sl mc9 (.ref ea) (nI n9)), (oq ea cO cp9 SA)] sz (some (.ref y9)) (fun A t => zPD (dC, dI) classes A [(oc10 sl mc9 (.ref ea) (nI n9)), (oq ea cO cp9 SA)] t.heap) 0 0 := by
  refine zInL (own := "java/util/ArrayList") (loc := [(0, .ref sl), (1, .int (nI i))]) rfl rfl rfl rfl (fun p e s m below meth c hx hb hr hts hown hlocks hml hnm9 A hA hS hP hD hK hXL hXN hK3 Q9 hQ9 ls hl => ?_)
  refine lv_iload_n hx hb dJx4a65c_get_915e3_0 rfl (lv_at hl 1 rfl) ?_
  refine lv_aload_n hx hb dJx4a65c_get_915e3_1 rfl (lv_at hl 0 rfl) ?_
  refine va_get (D := (dC, dI)) (ci := 10) (v := .int (nI n9)) (C := RJx4a65c) (T := TJx4a65c) (N := 3) hx hb hts inJx4a65c hown hK hP 0 rfl rfl 2 (Nat.le_of_ble_eq_true rfl) (hts _ mw_297) (fun _ h9 => h9) rfl dJx4a65c_get_915e3_2 ?_
  obtain ⟨hPc, hDc, hFc, hI1⟩ := zi_sub (wc := []) hP hD hS hA [] rfl rfl
  refine zcall (st1 := [.int (nI i)]) (va_runS (As := [.int (nI i), .int (nI n9)]) (rest := []) ⟨hx, hb, hml, hown, hts⟩ (k_O_checkIndex l dC dI cI cZ cF s.heap.size i n9 (by first | with_reducible assumption | omega) (by first | with_reducible assumption | omega)) (csS_86 hts rfl rfl ⟨Nat.le_of_ble_eq_true rfl, Nat.le_of_ble_eq_true rfl⟩) (zPS2 hPc hDc hK3 hXN) rfl rfl hl.1 rfl (lv_room (Nat.le_of_ble_eq_true rfl)) dJx4a65c_get_915e3_5 ⟨Nat.le_of_ble_eq_true rfl, Nat.le_of_ble_eq_true rfl⟩) hS hFc hFc rfl (fun t H locs ht hB hk1 hS => ?_)
  obtain ⟨hP1, hD1⟩ := hB
  rw [ht] at hP1
  replace hP := z0 hP hD hk1 hP1 hI1
  clear hk1 hPc hDc hFc hP1 hD1 ht hI1
  refine lv_pop hx hb dJx4a65c_get_915e3_8 rfl ?_
  refine lv_aload_n hx hb dJx4a65c_get_915e3_9 rfl (lv_at hl 0 rfl) ?_
  refine lv_iload_n hx hb dJx4a65c_get_915e3_10 rfl (lv_at hl 1 rfl) ?_
  obtain ⟨hPc, hDc, hFc, hI1⟩ := zi_sub (wc := [_, _]) hP hD hS hA [0, 1] rfl rfl
  refine zcall (st1 := [.ref y9]) (va_runV (As := [.int (nI i)]) (rest := []) ⟨hx, hb, hml, hown, hts⟩ (k_AL_elem l dC dI cI cZ cF H.size cO e0 mi sl ea n9 mc9 i cp9 y9 SA (by first | with_reducible assumption | assumption) (by first | with_reducible assumption | omega) (by first | with_reducible assumption | omega)) (csV_80 hts rfl rfl ⟨Nat.le_of_ble_eq_true rfl, Nat.le_of_ble_eq_true rfl⟩) (zPVL (q0 := 0) (ci := 10) hPc hDc hK hXL hS hFc rfl rfl) rfl rfl hl.1 rfl (lv_room (Nat.le_of_ble_eq_true rfl)) dJx4a65c_get_915e3_11 ⟨Nat.le_of_ble_eq_true rfl, Nat.le_of_ble_eq_true rfl⟩) hS hFc hFc rfl (fun t H locs ht hB hk1 hS => ?_)
  obtain ⟨hP1, hD1⟩ := hB
  rw [ht] at hP1
  replace hP := z0 hP hD hk1 hP1 hI1
  clear hk1 hPc hDc hFc hP1 hD1 ht hI1
  obtain ⟨hP9, hD9⟩ := zu_sub (wc := [_, _]) hP hD [true, true] rfl rfl
  rw [hQ9]
  exact W.aret hx hb hr (Or.inl ⟨_, rfl⟩) (Or.inr ⟨_, rfl⟩) (fun t ht hW => ⟨⟨rfl, by rw [ht]; exact hP9, hD9⟩, hS.F ht⟩) hS.2.2 dJx4a65c_get_915e3_14
set_option maxHeartbeats 4000000 in
set_option maxRecDepth 100000 in
theorem k_AL_fastRemove (l : Launch) (dC : Nat → ClassId) (dI : Nat → Nat → Nat) (cI cZ cF : ClassId) (sz : Nat) (cO : ClassId) (e0 : Nat) (mi : Nat) (sl : Nat) (ea : Nat) (mc9 : Int32) (i : Nat) (cp9 : Nat) (SA : Nat → Option Nat) (hic : i < cp9) (hcp : cp9 < 2147483648) : zML l yJx4a65c_fastRemove_b59b0 cJx4a65c_fastRemove_b59b0 4 none ({ frames := 0, cells := 0, slots := 0, locals := 0 } : Room) [.ref sl, .ref ea, .int (nI i)] (dC, dI) (zTyO cI cZ cF cO) e0 mi [(oc10 sl mc9 (.ref ea) (nI (i + 1))), (oq ea cO cp9 SA)] sz none (fun A t => zPD (dC, dI) classes A [(oc10 sl (mc9 + 1) (.ref ea) (nI i)), (oq ea cO cp9 (va_up SA i none))] t.heap) 0 0 := by
  refine zInL (own := "java/util/ArrayList") (loc := [(0, .ref sl), (1, .ref ea), (2, .int (nI i))]) rfl rfl rfl rfl (fun p e s m below meth c hx hb hr hts hown hlocks hml hnm9 A hA hS hP hD hK hXL hXN hK3 Q9 hQ9 ls hl => ?_)
  refine lv_aload_n hx hb dJx4a65c_fastRemove_b59b0_0 rfl (lv_at hl 0 rfl) ?_
  refine lv_dup hx hb dJx4a65c_fastRemove_b59b0_1 rfl ?_
  refine va_get (D := (dC, dI)) (ci := 10) (v := .int mc9) (C := RJx4a65c) (T := TJx4a65c) (N := 3) hx hb hts inJx4a65c hown hK hP 0 rfl rfl 0 (Nat.le_of_ble_eq_true rfl) (hts _ mw_299) (fun x9 h9 => u_same (hts _ mw_same_modCount) x9 h9) rfl dJx4a65c_fastRemove_b59b0_2 ?_
  refine lv_iconst (v := 1) hx hb dJx4a65c_fastRemove_b59b0_5 rfl ?_
  refine lv_iadd hx hb dJx4a65c_fastRemove_b59b0_6 ?_
  refine va_put (D := (dC, dI)) (ci := 10) (v := .int (mc9 + 1)) (ty := .int) (C := RJx4a65c) (T := TJx4a65c) (N := 3) hx hb hts inJx4a65c tyJx4a65c tyJx4a65c_ok nmJx4a65c hown hK hP hD hS 0 rfl rfl 0 (by decide) (hts _ mw_299) (fun x9 h9 => u_same (hts _ mw_same_modCount) x9 h9) rfl (by decide +kernel) rfl rfl (Nat.le_of_ble_eq_true rfl) dJx4a65c_fastRemove_b59b0_7 (fun H locs hP hD hS => ?_)
  obtain ⟨hP, hD⟩ := zre (W2 := [(oc10 sl (mc9 + 1) (.ref ea) (nI (i + 1))), _]) hP hD rfl
  refine lv_aload_n hx hb dJx4a65c_fastRemove_b59b0_10 rfl (lv_at hl 0 rfl) ?_
  refine va_get (D := (dC, dI)) (ci := 10) (v := .int (nI (i + 1))) (C := RJx4a65c) (T := TJx4a65c) (N := 3) hx hb hts inJx4a65c hown hK hP 0 rfl rfl 2 (Nat.le_of_ble_eq_true rfl) (hts _ mw_297) (fun _ h9 => h9) rfl dJx4a65c_fastRemove_b59b0_11 ?_
  refine lv_iconst (v := 1) hx hb dJx4a65c_fastRemove_b59b0_14 rfl ?_
  refine lv_isub hx hb dJx4a65c_fastRemove_b59b0_15 ?_
  refine zz_i (v := nI ((i + 1) - 1)) (pk_sub (a := i + 1) (b := 1) (by omega)) ?_
  refine zz_i (v := nI i) (zn_eq (by omega)) ?_
  refine lv_dup hx hb dJx4a65c_fastRemove_b59b0_16 rfl ?_
  refine lv_istore_n (lv' := [(3, .int (nI i)), (0, .ref sl), (1, .ref ea), (2, .int (nI i))]) hx hb dJx4a65c_fastRemove_b59b0_17 rfl hl (Nat.le_of_ble_eq_true rfl) rfl (fun ls hl => ?_)
  refine lv_iload_n hx hb dJx4a65c_fastRemove_b59b0_18 rfl (lv_at hl 3 rfl) ?_
  have b9_2 : zlt (i) := show i < 2147483648 by omega
  refine lv_icmp_le (tgt := 34) hx hb dJx4a65c_fastRemove_b59b0_19 rfl (fun c_1 => ?_) (fun c_1 => ?_)
  · have c_1 : ((i : Nat) : Int) ≤ ((i : Nat) : Int) := zc_le (nI_toInt b9_2) (nI_toInt b9_2) c_1
    refine lv_aload_n hx hb dJx4a65c_fastRemove_b59b0_34 rfl (lv_at hl 2 rfl) ?_
    refine lv_aload_n hx hb dJx4a65c_fastRemove_b59b0_35 rfl (lv_at hl 1 rfl) ?_
    refine lv_iload_n hx hb dJx4a65c_fastRemove_b59b0_36 rfl (lv_at hl 0 rfl) ?_
    refine lv_dup_x1 hx hb dJx4a65c_fastRemove_b59b0_37 rfl rfl ?_
    refine va_put (D := (dC, dI)) (ci := 10) (v := .int (nI i)) (ty := .int) (C := RJx4a65c) (T := TJx4a65c) (N := 3) hx hb hts inJx4a65c tyJx4a65c tyJx4a65c_ok nmJx4a65c hown hK hP hD hS 0 rfl rfl 2 (by decide) (hts _ mw_297) (fun _ h9 => h9) rfl (by decide +kernel) rfl rfl (Nat.le_of_ble_eq_true rfl) dJx4a65c_fastRemove_b59b0_38 (fun H locs hP hD hS => ?_)
    obtain ⟨hP, hD⟩ := zre (W2 := [(oc10 sl (mc9 + 1) (.ref ea) (nI i)), _]) hP hD rfl
    refine lv_null hx hb dJx4a65c_fastRemove_b59b0_41 ?_
    have b9_3 : i < cp9 := by omega
    have b9_4 : zlt (cp9) := show cp9 < 2147483648 by omega
    refine z_aastN hx hb hK hP hD hS 1 3 rfl rfl (e := i) rfl b9_3 b9_4 dJx4a65c_fastRemove_b59b0_42 (fun H locs hP hD hS => ?_)
    obtain ⟨hP, hD⟩ := zre (W2 := [_, (oq ea cO cp9 (va_up SA i none))]) hP hD rfl
    obtain ⟨hP9, hD9⟩ := zu_sub (wc := [_, _]) hP hD [true, true] rfl rfl
    rw [hQ9]
    exact W.vret hx hb hr (fun t ht hW => ⟨⟨rfl, by rw [ht]; exact hP9, hD9⟩, hS.F ht⟩) hS.2.2 dJx4a65c_fastRemove_b59b0_43
  · have c_1 : ((i : Nat) : Int) < ((i : Nat) : Int) := zc_nle (nI_toInt b9_2) (nI_toInt b9_2) c_1
    exfalso; omega
set_option maxHeartbeats 4000000 in
set_option maxRecDepth 100000 in
theorem k_AL_remove (l : Launch) (dC : Nat → ClassId) (dI : Nat → Nat → Nat) (cI cZ cF : ClassId) (sz : Nat) (cO : ClassId) (e0 : Nat) (mi : Nat) (sl : Nat) (ea : Nat) (mc9 : Int32) (i : Nat) (cp9 : Nat) (y9 : Nat) (SA : Nat → Option Nat) (hSA : SA i = some y9) (hic : i < cp9) (hcp : cp9 < 2147483648) : zML l yJx4a65c_remove_915e3 cJx4a65c_remove_915e3 4 (some (.object "java/lang/Object")) ({ frames := 2, cells := 0, slots := 0, locals := 43 } : Room) [.ref sl, .int (nI i)] (dC, dI) (zTyO cI cZ cF cO) e0 mi [(oc10 sl mc9 (.ref ea) (nI (i + 1))), (oq ea cO cp9 SA)] sz (some (.ref y9)) (fun A t => zPD (dC, dI) classes A [(oc10 sl (mc9 + 1) (.ref ea) (nI i)), (oq ea cO cp9 (va_up SA i none))] t.heap) 0 0 := by
  refine zInL (own := "java/util/ArrayList") (loc := [(0, .ref sl), (1, .int (nI i))]) rfl rfl rfl rfl (fun p e s m below meth c hx hb hr hts hown hlocks hml hnm9 A hA hS hP hD hK hXL hXN hK3 Q9 hQ9 ls hl => ?_)
  refine lv_iload_n hx hb dJx4a65c_remove_915e3_0 rfl (lv_at hl 1 rfl) ?_
  refine lv_aload_n hx hb dJx4a65c_remove_915e3_1 rfl (lv_at hl 0 rfl) ?_
  refine va_get (D := (dC, dI)) (ci := 10) (v := .int (nI (i + 1))) (C := RJx4a65c) (T := TJx4a65c) (N := 3) hx hb hts inJx4a65c hown hK hP 0 rfl rfl 2 (Nat.le_of_ble_eq_true rfl) (hts _ mw_297) (fun _ h9 => h9) rfl dJx4a65c_remove_915e3_2 ?_
  obtain ⟨hPc, hDc, hFc, hI1⟩ := zi_sub (wc := []) hP hD hS hA [] rfl rfl
  refine zcall (st1 := [.int (nI i)]) (va_runS (As := [.int (nI i), .int (nI (i + 1))]) (rest := []) ⟨hx, hb, hml, hown, hts⟩ (k_O_checkIndex l dC dI cI cZ cF s.heap.size i (i + 1) (by first | with_reducible assumption | omega) (by first | with_reducible assumption | omega)) (csS_86 hts rfl rfl ⟨Nat.le_of_ble_eq_true rfl, Nat.le_of_ble_eq_true rfl⟩) (zPS2 hPc hDc hK3 hXN) rfl rfl hl.1 rfl (lv_room (Nat.le_of_ble_eq_true rfl)) dJx4a65c_remove_915e3_5 ⟨Nat.le_of_ble_eq_true rfl, Nat.le_of_ble_eq_true rfl⟩) hS hFc hFc rfl (fun t H locs ht hB hk1 hS => ?_)
  obtain ⟨hP1, hD1⟩ := hB
  rw [ht] at hP1
  replace hP := z0 hP hD hk1 hP1 hI1
  clear hk1 hPc hDc hFc hP1 hD1 ht hI1
  refine lv_pop hx hb dJx4a65c_remove_915e3_8 rfl ?_
  refine lv_aload_n hx hb dJx4a65c_remove_915e3_9 rfl (lv_at hl 0 rfl) ?_
  refine va_get (D := (dC, dI)) (ci := 10) (v := .ref ea) (C := RJx4a65c) (T := TJx4a65c) (N := 3) hx hb hts inJx4a65c hown hK hP 0 rfl rfl 1 (Nat.le_of_ble_eq_true rfl) (hts _ mw_296) (fun _ h9 => h9) rfl dJx4a65c_remove_915e3_10 ?_
  refine lv_astore_n (lv' := [(2, .ref ea), (0, .ref sl), (1, .int (nI i))]) hx hb dJx4a65c_remove_915e3_13 rfl hl (Nat.le_of_ble_eq_true rfl) rfl (fun ls hl => ?_)
  refine lv_aload_n hx hb dJx4a65c_remove_915e3_14 rfl (lv_at hl 0 rfl) ?_
  refine lv_iload_n hx hb dJx4a65c_remove_915e3_15 rfl (lv_at hl 2 rfl) ?_
  have b9_1 : i < cp9 := by omega
  have b9_2 : zlt (cp9) := show cp9 < 2147483648 by omega
  refine z_aald hx hb hK hP 1 3 rfl rfl (e := i) rfl b9_1 b9_2 (v := .ref y9) (by rw [hSA]; rfl) dJx4a65c_remove_915e3_16 ?_
  refine lv_astore_n (lv' := [(3, .ref y9), (2, .ref ea), (0, .ref sl), (1, .int (nI i))]) hx hb dJx4a65c_remove_915e3_17 rfl hl (Nat.le_of_ble_eq_true rfl) rfl (fun ls hl => ?_)
  refine lv_aload_n hx hb dJx4a65c_remove_915e3_18 rfl (lv_at hl 2 rfl) ?_
  refine lv_aload_n hx hb dJx4a65c_remove_915e3_19 rfl (lv_at hl 1 rfl) ?_
  refine lv_iload_n hx hb dJx4a65c_remove_915e3_20 rfl (lv_at hl 3 rfl) ?_
  obtain ⟨hPc, hDc, hFc⟩ := zo_sub (wc := [_, _]) hP hD hS hA [0, 1] rfl rfl
  refine zcall (st1 := []) (va_runV (As := [.ref ea, .int (nI i)]) (rest := []) ⟨hx, hb, hml, hown, hts⟩ (k_AL_fastRemove l dC dI cI cZ cF H.size cO e0 mi sl ea mc9 i cp9 SA (by first | with_reducible assumption | omega) (by first | with_reducible assumption | omega)) (csV_81 hts rfl rfl ⟨Nat.le_of_ble_eq_true rfl, Nat.le_of_ble_eq_true rfl⟩) (zPVL (q0 := 0) (ci := 10) hPc hDc hK hXL hS hFc rfl rfl) rfl rfl hl.1 rfl (lv_room (Nat.le_of_ble_eq_true rfl)) dJx4a65c_remove_915e3_21 ⟨Nat.le_of_ble_eq_true rfl, Nat.le_of_ble_eq_true rfl⟩) hS hFc hFc rfl (fun t H locs ht hB hk1 hS => ?_)
  obtain ⟨hP1, hD1⟩ := hB
  rw [ht] at hP1
  obtain ⟨hP, hD⟩ := zn (W2 := [(oc10 sl (mc9 + 1) (.ref ea) (nI i)), (oq ea cO cp9 (va_up SA i none))]) hP hD hk1 hFc hP1 hD1 [0, 1] [] [false, false] [0, 1] (by decide +kernel) rfl rfl rfl rfl rfl
  clear hk1 hPc hDc hFc hP1 hD1 ht
  refine lv_aload_n hx hb dJx4a65c_remove_915e3_24 rfl (lv_at hl 0 rfl) ?_
  obtain ⟨hP9, hD9⟩ := zu_sub (wc := [_, _]) hP hD [true, true] rfl rfl
  rw [hQ9]
  exact W.aret hx hb hr (Or.inl ⟨_, rfl⟩) (Or.inr ⟨_, rfl⟩) (fun t ht hW => ⟨⟨rfl, by rw [ht]; exact hP9, hD9⟩, hS.F ht⟩) hS.2.2 dJx4a65c_remove_915e3_25
set_option maxHeartbeats 4000000 in
set_option maxRecDepth 100000 in
theorem k_J_newLength (l : Launch) (dC : Nat → ClassId) (dI : Nat → Nat → Nat) (cI cZ cF : ClassId) (sz : Nat) (n : Nat) (a1 : Nat) (b1 : Nat) (h1n : 1 ≤ n) (hn : n ≤ 100000) (ha : a1 ≤ 100000) (hbb : b1 ≤ 100000) : zM l yJ8_newLength_cabcc cJ8_newLength_cabcc 4 (some .int) ({ frames := 1, cells := 0, slots := 0, locals := 14 } : Room) [.int (nI n), .int (nI a1), .int (nI b1)] (dC, dI) (zTy cI cZ cF) [] sz (some (.int (nI (n + max a1 b1)))) (fun A t => zPD (dC, dI) classes A [] t.heap) 0 0 := by
  refine zIn (own := "jdk/internal/util/ArraysSupport") (loc := [(0, .int (nI n)), (1, .int (nI a1)), (2, .int (nI b1))]) rfl rfl rfl rfl (fun p e s m below meth c hx hb hr hts hown hlocks hml hnm9 A hA hS hP hD hK hXN Q9 hQ9 ls hl => ?_)
  refine lv_iload_n hx hb dJ8_newLength_cabcc_0 rfl (lv_at hl 0 rfl) ?_
  refine lv_iload_n hx hb dJ8_newLength_cabcc_1 rfl (lv_at hl 1 rfl) ?_
  refine lv_iload_n hx hb dJ8_newLength_cabcc_2 rfl (lv_at hl 2 rfl) ?_
  refine va_mmax hx hb (by rw [hml]; exact hl.1.symm) hown (hts _ mw_826) (hts _ mw_159) (hts _ mw_103) (hts _ mw_maxcode) (Nat.le_of_ble_eq_true rfl) (Nat.le_of_ble_eq_true rfl) (Nat.le_of_ble_eq_true rfl) (Nat.le_of_ble_eq_true rfl) dJ8_newLength_cabcc_3 ?_
  have b9_1 : zlt (a1) := show a1 < 2147483648 by omega
  have b9_2 : zlt (b1) := show b1 < 2147483648 by omega
  refine lv_topi (fun v_3 ev_3 => ?_)
  have hv_3 : v_3.toInt = max ((a1 : Nat) : Int) ((b1 : Nat) : Int) := zmax (nI_toInt b9_1) (nI_toInt b9_2) ev_3
  refine zz_i (v := nI (max a1 b1)) (Int32.toInt_inj.mp (by rw [hv_3, nI_toInt (by omega)]; omega)) ?_
  refine lv_iadd hx hb dJ8_newLength_cabcc_6 ?_
  refine zz_i (v := nI (n + (max a1 b1))) (nI_add n (max a1 b1)) ?_
  refine lv_istore_n (lv' := [(3, .int (nI (n + (max a1 b1)))), (0, .int (nI n)), (1, .int (nI a1)), (2, .int (nI b1))]) hx hb dJ8_newLength_cabcc_7 rfl hl (Nat.le_of_ble_eq_true rfl) rfl (fun ls hl => ?_)
  refine lv_iconst (v := 0) hx hb dJ8_newLength_cabcc_8 rfl ?_
  refine lv_iload_n hx hb dJ8_newLength_cabcc_9 rfl (lv_at hl 0 rfl) ?_
  have b9_5 : zlt ((n + (max a1 b1))) := show (n + (max a1 b1)) < 2147483648 by omega
  refine lv_icmp_ge (tgt := 21) hx hb dJ8_newLength_cabcc_10 rfl (fun c_4 => ?_) (fun c_4 => ?_)
  · have c_4 : ((n + (max a1 b1) : Nat) : Int) ≤ 0 := zc_le (nI_toInt b9_5) rfl c_4
    exfalso; omega
  · have c_4 : 0 < ((n + (max a1 b1) : Nat) : Int) := zc_nle (nI_toInt b9_5) rfl c_4
    refine lv_iload_n hx hb dJ8_newLength_cabcc_13 rfl (lv_at hl 0 rfl) ?_
    refine lv_ldc hx hb hown (hts _ mw_827) dJ8_newLength_cabcc_14 ?_
    refine lv_icmp_gt (tgt := 21) hx hb dJ8_newLength_cabcc_16 rfl (fun c_6 => ?_) (fun c_6 => ?_)
    · have c_6 : 2147483639 < ((n + (max a1 b1) : Nat) : Int) := zc_lt rfl (nI_toInt b9_5) c_6
      exfalso; omega
    · have c_6 : ((n + (max a1 b1) : Nat) : Int) ≤ 2147483639 := zc_nlt rfl (nI_toInt b9_5) c_6
      refine lv_iload_n hx hb dJ8_newLength_cabcc_19 rfl (lv_at hl 0 rfl) ?_
      obtain ⟨hP9, hD9⟩ := zu_sub (wc := []) hP hD [] rfl rfl
      rw [hQ9]
      exact W.iret (v := nI (n + (max a1 b1))) hx hb hr (fun t ht hW => ⟨⟨rfl, by rw [ht]; exact hP9, hD9⟩, hS.F ht⟩) hS.2.2 dJ8_newLength_cabcc_20
set_option maxHeartbeats 4000000 in
set_option maxRecDepth 100000 in
theorem k_J_copyOf3 (l : Launch) (dC : Nat → ClassId) (dI : Nat → Nat → Nat) (cI cZ cF : ClassId) (sz : Nat) (cO : ClassId) (e0 : Nat) (mi : Nat) (ea : Nat) (n : Nat) (N9 : Nat) (SA : Nat → Option Nat) (L : List Nat) (f : Nat → va_E) (hn10 : 10 ≤ n) (hn : n ≤ 100000) (hel : ∀ i, i < n → ∃ y vs, SA i = some y ∧ y ∈ L ∧ f y = .inr (11, vs)) (hN9 : n ≤ N9 ∧ N9 ≤ 200000) : Met l yJ7_copyOf_6403c (.code yJ7_copyOf_6403c cJ7_copyOf_6403c 4 (some (.array (.object "java/lang/Object"))) :: ws0) ({ frames := 1, cells := 1, slots := N9, locals := 24 } : Room) (va_Pc [.ref ea, .int (nI N9), .ref mi] (zPre (dC, dI) classes (zTyO cI cZ cF cO) ([(oq ea cO n SA)] ++ va_pl L f) sz (zXL e0 mi (va_A ([(oq ea cO n SA)] ++ va_pl L f) sz)))) (zQe (fun v9 t => ∃ (q9 : Nat), v9 = (some (.ref q9)) ∧ va_P (dC, dI) classes ([(oq ea cO n SA), (oq q9 cO N9 (va_cpy SA (fun _ => none) 0 0 n))] ++ va_pl L f) t.heap ∧ va_D (va_A ([(oq ea cO n SA)] ++ va_pl L f) sz) ([(oq ea cO n SA), (oq q9 cO N9 (va_cpy SA (fun _ => none) 0 0 n))] ++ va_pl L f)) (va_A ([(oq ea cO n SA)] ++ va_pl L f) sz)) 1 N9 (va_A ([(oq ea cO n SA)] ++ va_pl L f) sz) := by
  refine Met.ofW (cc := cJ7_copyOf_6403c) (maxL := 4) (ret := (some (.array (.object "java/lang/Object")))) rfl rfl ?_
  intro p e s m args below meth c s₁ B hml hv
  obtain ⟨rfl, hsz, hP, hK, hD0, hXL⟩ := hv
  have hx := B.exec
  have hb := B.bytes
  have hr := B.returns
  have hts0 := atoms_spec (ws := .code yJ7_copyOf_6403c cJ7_copyOf_6403c 4 (some (.array (.object "java/lang/Object"))) :: ws0) B.pre
  have hts : ∀ w9 ∈ ws0, w9.before ([.ref ea, .int (nI N9), .ref mi] : List Value).toArray s = true := fun w9 h => hts0 w9 (List.mem_cons_of_mem _ h)
  have hown : s.vm.findClass "java/util/Arrays" = some m.cls := findClass_of_methodNamed B.named
  have hlocks := B.notSynchronized
  subst hsz
  have hD := hD0.self (sz := s.heap.size)
  clear hD0
  generalize hAe : va_A ([(oq ea cO n SA)] ++ va_pl L f) s.heap.size = A at hD hXL ⊢
  have hA : ∀ q : Nat, s.heap.size ≤ q → A q := fun q h => by rw [← hAe]; exact Or.inr h
  clear hAe
  have hS : va_S A s.heap s.heap [] := va_S.rf
  have hXN := hXL.1
  have hK3 := hK.sub [0, 1, 2] rfl
  have hP : va_P (dC, dI) classes ([(oq ea cO n SA)] ++ va_pl L f) s.heap := hP
  obtain ⟨Q9, hQ9⟩ : ∃ Q9 : State → Prop, Q9 = MQ below (zQe (fun v9 t => ∃ (q9 : Nat), v9 = (some (.ref q9)) ∧ va_P (dC, dI) classes ([(oq ea cO n SA), (oq q9 cO N9 (va_cpy SA (fun _ => none) 0 0 n))] ++ va_pl L f) t.heap ∧ va_D A ([(oq ea cO n SA), (oq q9 cO N9 (va_cpy SA (fun _ => none) 0 0 n))] ++ va_pl L f)) A) ([.ref ea, .int (nI N9), .ref mi] : List Value).toArray s 1 N9 A := ⟨_, rfl⟩
  rw [← hQ9]
  have hl := lv_entry ([.ref ea, .int (nI N9), .ref mi]) (n := 4) (Nat.le_of_ble_eq_true rfl)
  rw [lg_entry_eq]
  generalize (lg_sl ([.ref ea, .int (nI N9), .ref mi]) ++ List.replicate (4 - (lg_sl ([.ref ea, .int (nI N9), .ref mi])).length) Slot.unset).toArray = ls at hl ⊢
  have hl : lv_has ls 4 [(0, .ref ea), (1, .int (nI N9)), (2, .ref mi)] := hl
  refine lv_aload_n hx hb dJ7_copyOf_6403c_0 rfl (lv_at hl 2 rfl) ?_
  refine va_ldcM hx hb hown (hts _ mw_854) hXL.2.2.2.1 dJ7_copyOf_6403c_1 ?_
  refine z_acmpne (rx := mi) (ry := mi) (tgt := 13) hx hb dJ7_copyOf_6403c_3 (by decide) (fun c_1 => ?_) (fun c_1 => ?_)
  · have c_1 : ¬ mi = mi := c_1
    exact absurd rfl c_1
  · have c_1 : mi = mi := c_1
    refine lv_iload_n hx hb dJ7_copyOf_6403c_6 rfl (lv_at hl 1 rfl) ?_
    refine z_newq (C := "java/lang/Object") hx hb hown (hts _ mw_856) hXN.2.2.2 hK hP hD hS hA (n := nI N9) (N' := N9) (cA := cO) 3 rfl (nI_pos (by omega)) (nI_clamp (by omega)) (show N9 * 4 ≤ 536870912 by omega) (show 1 ≤ 1 by omega) (show (0 + N9) ≤ N9 by omega) dJ7_copyOf_6403c_7 (fun q9 H hP hD hS => ?_)
    have hP := va_P.swap hP
    have hD := va_D.swap hD
    obtain ⟨hP, hD⟩ := zre (W2 := ([_, (oq q9 cO N9 (fun _ => none))] ++ va_pl L f)) hP hD rfl
    refine lv_goto (tgt := 24) hx hb dJ7_copyOf_6403c_10 rfl ?_
    refine lv_astore_n (lv' := [(3, .ref q9), (0, .ref ea), (1, .int (nI N9)), (2, .ref mi)]) hx hb dJ7_copyOf_6403c_24 rfl hl (Nat.le_of_ble_eq_true rfl) rfl (fun ls hl => ?_)
    refine lv_aload_n hx hb dJ7_copyOf_6403c_25 rfl (lv_at hl 1 rfl) ?_
    refine lv_iconst (v := 0) hx hb dJ7_copyOf_6403c_26 rfl ?_
    refine lv_aload_n hx hb dJ7_copyOf_6403c_27 rfl (lv_at hl 0 rfl) ?_
    refine lv_iconst (v := 0) hx hb dJ7_copyOf_6403c_28 rfl ?_
    refine lv_aload_n hx hb dJ7_copyOf_6403c_29 rfl (lv_at hl 1 rfl) ?_
    refine va_alen (v := nI n) hx hb hK hP 0 3 rfl rfl rfl dJ7_copyOf_6403c_30 ?_
    refine lv_iload_n hx hb dJ7_copyOf_6403c_31 rfl (lv_at hl 2 rfl) ?_
    refine va_mmin hx hb (by rw [hml]; exact hl.1.symm) hown (hts _ mw_857) (hts _ mw_858) (hts _ mw_103) (hts _ mw_mincode) (Nat.le_of_ble_eq_true rfl) (Nat.le_of_ble_eq_true rfl) (show 1 ≤ 1 by omega) (show (0 + N9) ≤ N9 by omega) dJ7_copyOf_6403c_32 ?_
    have b9_2 : zlt (n) := show n < 2147483648 by omega
    have b9_3 : zlt (N9) := show N9 < 2147483648 by omega
    refine lv_topi (fun v_4 ev_4 => ?_)
    have hv_4 : v_4.toInt = min ((n : Nat) : Int) ((N9 : Nat) : Int) := zmin (nI_toInt b9_2) (nI_toInt b9_3) ev_4
    refine zz_i (v := nI n) (Int32.toInt_inj.mp (by rw [hv_4, nI_toInt (by omega)]; omega)) ?_
    refine z_copyq hx hb (by rw [hml]; exact hl.1.symm) hown (hts _ mw_860) (hts _ mw_acopy) (hts _ mw_487) (hts _ mw_115) hK hP hD hS 0 1 3 3 rfl rfl rfl rfl (nn := n) (n := nI n) rfl (by omega) (by omega) (by omega) (by omega) (z_elS hK hP hel) (z_asg hXN.2.1) (Nat.le_of_ble_eq_true rfl) (Nat.le_of_ble_eq_true rfl) dJ7_copyOf_6403c_35 (fun H locs hP hD hS => ?_)
    obtain ⟨hP, hD⟩ := zre (W2 := ([_, (oq q9 cO N9 (va_cpy SA (fun _ => none) 0 0 n))] ++ va_pl L f)) hP hD rfl
    refine lv_aload_n hx hb dJ7_copyOf_6403c_38 rfl (lv_at hl 0 rfl) ?_
    obtain ⟨hP9, hD9⟩ := zu_part (cx := [_, _]) hP hD [true, true] rfl rfl
    refine W.widen (k := 1) (n := N9) (by omega) (by omega) ?_
    rw [hQ9]
    exact W.aret hx hb hr (Or.inr ⟨_, rfl⟩) (Or.inr ⟨_, rfl⟩) (fun t ht hW => ⟨⟨_, rfl, q9, rfl, by rw [ht]; exact hP9, hD9⟩, hS.F ht⟩) hS.2.2 dJ7_copyOf_6403c_39
set_option maxHeartbeats 4000000 in
set_option maxRecDepth 100000 in
theorem k_J_copyOf2 (l : Launch) (dC : Nat → ClassId) (dI : Nat → Nat → Nat) (cI cZ cF : ClassId) (sz : Nat) (cO : ClassId) (e0 : Nat) (mi : Nat) (ea : Nat) (n : Nat) (N9 : Nat) (SA : Nat → Option Nat) (L : List Nat) (f : Nat → va_E) (hn10 : 10 ≤ n) (hn : n ≤ 100000) (hel : ∀ i, i < n → ∃ y vs, SA i = some y ∧ y ∈ L ∧ f y = .inr (11, vs)) (hN9 : n ≤ N9 ∧ N9 ≤ 200000) : Met l yJ7_copyOf_1904c (.code yJ7_copyOf_1904c cJ7_copyOf_1904c 2 (some (.array (.object "java/lang/Object"))) :: ws0) ({ frames := 2, cells := 1, slots := N9, locals := 47 } : Room) (va_Pc [.ref ea, .int (nI N9)] (zPre (dC, dI) classes (zTyO cI cZ cF cO) ([(oq ea cO n SA)] ++ va_pl L f) sz (zXL e0 mi (va_A ([(oq ea cO n SA)] ++ va_pl L f) sz)))) (zQe (fun v9 t => ∃ (q9 : Nat), v9 = (some (.ref q9)) ∧ va_P (dC, dI) classes ([(oq ea cO n SA), (oq q9 cO N9 (va_cpy SA (fun _ => none) 0 0 n))] ++ va_pl L f) t.heap ∧ va_D (va_A ([(oq ea cO n SA)] ++ va_pl L f) sz) ([(oq ea cO n SA), (oq q9 cO N9 (va_cpy SA (fun _ => none) 0 0 n))] ++ va_pl L f)) (va_A ([(oq ea cO n SA)] ++ va_pl L f) sz)) 1 N9 (va_A ([(oq ea cO n SA)] ++ va_pl L f) sz) := by
  refine Met.ofW (cc := cJ7_copyOf_1904c) (maxL := 2) (ret := (some (.array (.object "java/lang/Object")))) rfl rfl ?_
  intro p e s m args below meth c s₁ B hml hv
  obtain ⟨rfl, hsz, hP, hK, hD0, hXL⟩ := hv
  have hx := B.exec
  have hb := B.bytes
  have hr := B.returns
  have hts0 := atoms_spec (ws := .code yJ7_copyOf_1904c cJ7_copyOf_1904c 2 (some (.array (.object "java/lang/Object"))) :: ws0) B.pre
  have hts : ∀ w9 ∈ ws0, w9.before ([.ref ea, .int (nI N9)] : List Value).toArray s = true := fun w9 h => hts0 w9 (List.mem_cons_of_mem _ h)
  have hown : s.vm.findClass "java/util/Arrays" = some m.cls := findClass_of_methodNamed B.named
  have hlocks := B.notSynchronized
  subst hsz
  have hD := hD0.self (sz := s.heap.size)
  clear hD0
  generalize hAe : va_A ([(oq ea cO n SA)] ++ va_pl L f) s.heap.size = A at hD hXL ⊢
  have hA : ∀ q : Nat, s.heap.size ≤ q → A q := fun q h => by rw [← hAe]; exact Or.inr h
  clear hAe
  have hS : va_S A s.heap s.heap [] := va_S.rf
  have hXN := hXL.1
  have hK3 := hK.sub [0, 1, 2] rfl
  have hP : va_P (dC, dI) classes ([(oq ea cO n SA)] ++ va_pl L f) s.heap := hP
  obtain ⟨Q9, hQ9⟩ : ∃ Q9 : State → Prop, Q9 = MQ below (zQe (fun v9 t => ∃ (q9 : Nat), v9 = (some (.ref q9)) ∧ va_P (dC, dI) classes ([(oq ea cO n SA), (oq q9 cO N9 (va_cpy SA (fun _ => none) 0 0 n))] ++ va_pl L f) t.heap ∧ va_D A ([(oq ea cO n SA), (oq q9 cO N9 (va_cpy SA (fun _ => none) 0 0 n))] ++ va_pl L f)) A) ([.ref ea, .int (nI N9)] : List Value).toArray s 1 N9 A := ⟨_, rfl⟩
  rw [← hQ9]
  have hl := lv_entry ([.ref ea, .int (nI N9)]) (n := 2) (Nat.le_of_ble_eq_true rfl)
  rw [lg_entry_eq]
  generalize (lg_sl ([.ref ea, .int (nI N9)]) ++ List.replicate (2 - (lg_sl ([.ref ea, .int (nI N9)])).length) Slot.unset).toArray = ls at hl ⊢
  have hl : lv_has ls 2 [(0, .ref ea), (1, .int (nI N9))] := hl
  refine lv_aload_n hx hb dJ7_copyOf_1904c_0 rfl (lv_at hl 0 rfl) ?_
  refine lv_iload_n hx hb dJ7_copyOf_1904c_1 rfl (lv_at hl 1 rfl) ?_
  refine lv_aload_n hx hb dJ7_copyOf_1904c_2 rfl (lv_at hl 0 rfl) ?_
  refine va_getC hx hb (by rw [hml]; exact hl.1.symm) hown (hts _ mw_834) (va_Dc.use hXL.2.2.1) (hts _ mw_getCs) (hts _ mw_835) (hts _ mw_getCn) hXL.2.2.2.1 (z_cellA (q0 := 0) (t0 := 3) hK hP rfl rfl (by decide)) (Nat.le_of_ble_eq_true rfl) (Nat.le_of_ble_eq_true rfl) dJ7_copyOf_1904c_3 ?_
  obtain ⟨hPc, hDc, hFc⟩ := zo_part (cx := [_]) hP hD hS hA [0] rfl rfl
  refine zcalle (va_runS (As := [.ref ea, .int (nI N9), .ref mi]) (rest := []) ⟨hx, hb, hml, hown, hts⟩ (k_J_copyOf3 l dC dI cI cZ cF s.heap.size cO e0 mi ea n N9 SA L f (by first | with_reducible assumption | omega) (by first | with_reducible assumption | omega) (by first | with_reducible assumption | assumption) (by first | with_reducible assumption | omega)) (csS_87 hts rfl rfl ⟨Nat.le_of_ble_eq_true rfl, Nat.le_of_ble_eq_true rfl⟩) (zPSL hPc hDc hK hXL hS hFc) rfl rfl hl.1 rfl (lv_room (Nat.le_of_ble_eq_true rfl)) dJ7_copyOf_1904c_6 ⟨show (0 + 1) ≤ 1 by omega, show (0 + N9) ≤ N9 by omega⟩) hS hFc hFc (fun v9 t H locs ht hB hk1 hS => ?_)
  obtain ⟨q9, rfl, hP1, hD1⟩ := hB
  refine W.eq (g2 := F0 m 9 ls [.ref q9]) rfl ?_
  rw [ht] at hP1
  obtain ⟨hP, hD⟩ := znP (W2 := [(oq ea cO n SA), (oq q9 cO N9 (va_cpy SA (fun _ => none) 0 0 n))]) hP hD hk1 hFc hP1 hD1 [0] [] [false, false] [0, 1] (by decide +kernel) rfl rfl rfl rfl rfl
  clear hk1 hPc hDc hFc hP1 hD1 ht
  obtain ⟨hP9, hD9⟩ := zu_part (cx := [_, _]) hP hD [true, true] rfl rfl
  refine W.widen (k := 1) (n := N9) (by omega) (by omega) ?_
  rw [hQ9]
  exact W.aret hx hb hr (Or.inr ⟨_, rfl⟩) (Or.inr ⟨_, rfl⟩) (fun t ht hW => ⟨⟨_, rfl, q9, rfl, by rw [ht]; exact hP9, hD9⟩, hS.F ht⟩) hS.2.2 dJ7_copyOf_1904c_9
set_option maxHeartbeats 4000000 in
set_option maxRecDepth 100000 in
theorem k_AL_growi_0 (l : Launch) (dC : Nat → ClassId) (dI : Nat → Nat → Nat) (cI cZ cF : ClassId) (sz : Nat) (cO : ClassId) (e0 : Nat) (mi : Nat) (sl : Nat) (m9 : Nat) (mc9 : Int32) (z7 : Int32) (hm9 : m9 ≤ 10) : Met l yJx4a65c_grow_92f84 (.code yJx4a65c_grow_92f84 cJx4a65c_grow_92f84 4 (some (.array (.object "java/lang/Object"))) :: ws0) ({ frames := 1, cells := 1, slots := 10, locals := 14 } : Room) (va_Pc [.ref sl, .int (nI m9)] (zPre (dC, dI) classes (zTyO cI cZ cF cO) [(oc10 sl mc9 (.ref e0) z7)] sz (zXL e0 mi (va_A [(oc10 sl mc9 (.ref e0) z7)] sz)))) (zQe (fun v9 t => ∃ (q9 : Nat), v9 = (some (.ref q9)) ∧ va_P (dC, dI) classes [(oc10 sl mc9 (.ref q9) z7), (oq q9 cO 10 (fun _ => none))] t.heap ∧ va_D (va_A [(oc10 sl mc9 (.ref e0) z7)] sz) [(oc10 sl mc9 (.ref q9) z7), (oq q9 cO 10 (fun _ => none))]) (va_A [(oc10 sl mc9 (.ref e0) z7)] sz)) 1 10 (va_A [(oc10 sl mc9 (.ref e0) z7)] sz) := by
  refine Met.ofW (cc := cJx4a65c_grow_92f84) (maxL := 4) (ret := (some (.array (.object "java/lang/Object")))) rfl rfl ?_
  intro p e s m args below meth c s₁ B hml hv
  obtain ⟨rfl, hsz, hP, hK, hD0, hXL⟩ := hv
  have hx := B.exec
  have hb := B.bytes
  have hr := B.returns
  have hts0 := atoms_spec (ws := .code yJx4a65c_grow_92f84 cJx4a65c_grow_92f84 4 (some (.array (.object "java/lang/Object"))) :: ws0) B.pre
  have hts : ∀ w9 ∈ ws0, w9.before ([.ref sl, .int (nI m9)] : List Value).toArray s = true := fun w9 h => hts0 w9 (List.mem_cons_of_mem _ h)
  have hown : s.vm.findClass "java/util/ArrayList" = some m.cls := findClass_of_methodNamed B.named
  have hlocks := B.notSynchronized
  subst hsz
  have hD := hD0.self (sz := s.heap.size)
  clear hD0
  generalize hAe : va_A [(oc10 sl mc9 (.ref e0) z7)] s.heap.size = A at hD hXL ⊢
  have hA : ∀ q : Nat, s.heap.size ≤ q → A q := fun q h => by rw [← hAe]; exact Or.inr h
  clear hAe
  have hS : va_S A s.heap s.heap [] := va_S.rf
  have hXN := hXL.1
  have hK3 := hK.sub [0, 1, 2] rfl
  have hP : va_P (dC, dI) classes [(oc10 sl mc9 (.ref e0) z7)] s.heap := hP
  obtain ⟨Q9, hQ9⟩ : ∃ Q9 : State → Prop, Q9 = MQ below (zQe (fun v9 t => ∃ (q9 : Nat), v9 = (some (.ref q9)) ∧ va_P (dC, dI) classes [(oc10 sl mc9 (.ref q9) z7), (oq q9 cO 10 (fun _ => none))] t.heap ∧ va_D A [(oc10 sl mc9 (.ref q9) z7), (oq q9 cO 10 (fun _ => none))]) A) ([.ref sl, .int (nI m9)] : List Value).toArray s 1 10 A := ⟨_, rfl⟩
  rw [← hQ9]
  have hl := lv_entry ([.ref sl, .int (nI m9)]) (n := 4) (Nat.le_of_ble_eq_true rfl)
  rw [lg_entry_eq]
  generalize (lg_sl ([.ref sl, .int (nI m9)]) ++ List.replicate (4 - (lg_sl ([.ref sl, .int (nI m9)])).length) Slot.unset).toArray = ls at hl ⊢
  have hl : lv_has ls 4 [(0, .ref sl), (1, .int (nI m9))] := hl
  refine lv_aload_n hx hb dJx4a65c_grow_92f84_0 rfl (lv_at hl 0 rfl) ?_
  refine va_get (D := (dC, dI)) (ci := 10) (v := .ref e0) (C := RJx4a65c) (T := TJx4a65c) (N := 3) hx hb hts inJx4a65c hown hK hP 0 rfl rfl 1 (Nat.le_of_ble_eq_true rfl) (hts _ mw_296) (fun _ h9 => h9) rfl dJx4a65c_grow_92f84_1 ?_
  refine z_alen0 hx hb hXL.2.2.2.2 hS dJx4a65c_grow_92f84_4 ?_
  refine lv_istore_n (lv' := [(2, .int 0), (0, .ref sl), (1, .int (nI m9))]) hx hb dJx4a65c_grow_92f84_5 rfl hl (Nat.le_of_ble_eq_true rfl) rfl (fun ls hl => ?_)
  refine lv_iload_n hx hb dJx4a65c_grow_92f84_6 rfl (lv_at hl 0 rfl) ?_
  refine lv_if_gt (tgt := 20) hx hb dJx4a65c_grow_92f84_7 rfl (fun c_1 => ?_) (fun c_1 => ?_)
  · exact absurd c_1 (by decide)
  · refine lv_aload_n hx hb dJx4a65c_grow_92f84_10 rfl (lv_at hl 1 rfl) ?_
    refine va_get (D := (dC, dI)) (ci := 10) (v := .ref e0) (C := RJx4a65c) (T := TJx4a65c) (N := 3) hx hb hts inJx4a65c hown hK hP 0 rfl rfl 1 (Nat.le_of_ble_eq_true rfl) (hts _ mw_296) (fun _ h9 => h9) rfl dJx4a65c_grow_92f84_11 ?_
    refine va_gets hx hb hXL.2.1 hS hown (hts _ mw_294) (fun _ h9 => h9) dJx4a65c_grow_92f84_14 ?_
    refine z_acmpeq (rx := e0) (ry := e0) (tgt := 45) hx hb dJx4a65c_grow_92f84_17 (by decide) (fun c_2 => ?_) (fun c_2 => ?_)
    · have c_2 : e0 = e0 := c_2
      refine lv_aload_n hx hb dJx4a65c_grow_92f84_45 rfl (lv_at hl 1 rfl) ?_
      refine lv_bipush (v := 10) hx hb dJx4a65c_grow_92f84_46 rfl ?_
      refine lv_iload_n hx hb dJx4a65c_grow_92f84_48 rfl (lv_at hl 2 rfl) ?_
      refine va_mmax hx hb (by rw [hml]; exact hl.1.symm) hown (hts _ mw_861) (hts _ mw_159) (hts _ mw_103) (hts _ mw_maxcode) (Nat.le_of_ble_eq_true rfl) (Nat.le_of_ble_eq_true rfl) (Nat.le_of_ble_eq_true rfl) (Nat.le_of_ble_eq_true rfl) dJx4a65c_grow_92f84_49 ?_
      have b9_3 : zlt (m9) := show m9 < 2147483648 by omega
      refine lv_topi (fun v_4 ev_4 => ?_)
      have hv_4 : v_4.toInt = max 10 ((m9 : Nat) : Int) := zmax (by decide) (nI_toInt b9_3) ev_4
      refine zz_i (v := 10) (Int32.toInt_inj.mp (by rw [hv_4]; show _ = (10 : Int); omega)) ?_
      refine z_newq (C := "java/lang/Object") hx hb hown (hts _ mw_862) hXN.2.2.2 hK hP hD hS hA (n := nI 10) (N' := 10) (cA := cO) 3 rfl (nI_pos (by omega)) (nI_clamp (by omega)) (show 10 * 4 ≤ 536870912 by omega) (show 1 ≤ 1 by omega) (show 10 ≤ 10 by omega) dJx4a65c_grow_92f84_52 (fun q9 H hP hD hS => ?_)
      obtain ⟨hP, hD⟩ := zre (W2 := [_, (oq q9 cO 10 (fun _ => none))]) hP hD rfl
      refine lv_dup_x1 hx hb dJx4a65c_grow_92f84_55 rfl rfl ?_
      refine va_put (D := (dC, dI)) (ci := 10) (v := .ref q9) (ty := .array (.object "java/lang/Object")) (C := RJx4a65c) (T := TJx4a65c) (N := 3) hx hb hts inJx4a65c tyJx4a65c tyJx4a65c_ok nmJx4a65c hown hK hP hD hS 0 rfl rfl 1 (by decide) (hts _ mw_296) (fun _ h9 => h9) rfl (by decide +kernel) rfl rfl (Nat.le_of_ble_eq_true rfl) dJx4a65c_grow_92f84_56 (fun H locs hP hD hS => ?_)
      obtain ⟨hP, hD⟩ := zre (W2 := [(oc10 sl mc9 (.ref q9) z7), _]) hP hD rfl
      obtain ⟨hP9, hD9⟩ := zu_sub (wc := [_, _]) hP hD [true, true] rfl rfl
      refine W.widen (k := 1) (n := 10) (by omega) (by omega) ?_
      rw [hQ9]
      exact W.aret hx hb hr (Or.inr ⟨_, rfl⟩) (Or.inr ⟨_, rfl⟩) (fun t ht hW => ⟨⟨_, rfl, q9, rfl, by rw [ht]; exact hP9, hD9⟩, hS.F ht⟩) hS.2.2 dJx4a65c_grow_92f84_59
    · have c_2 : ¬ e0 = e0 := c_2
      exact absurd rfl c_2
set_option maxHeartbeats 4000000 in
set_option maxRecDepth 100000 in
theorem k_AL_growi_g (l : Launch) (dC : Nat → ClassId) (dI : Nat → Nat → Nat) (cI cZ cF : ClassId) (sz : Nat) (cO : ClassId) (e0 : Nat) (mi : Nat) (sl : Nat) (ea : Nat) (n : Nat) (mc9 : Int32) (z7 : Int32) (SA : Nat → Option Nat) (L : List Nat) (f : Nat → va_E) (hn10 : 10 ≤ n) (hn : n ≤ 100000) (hel : ∀ i, i < n → ∃ y vs, SA i = some y ∧ y ∈ L ∧ f y = .inr (11, vs)) : Met l yJx4a65c_grow_92f84 (.code yJx4a65c_grow_92f84 cJx4a65c_grow_92f84 4 (some (.array (.object "java/lang/Object"))) :: ws0) ({ frames := 3, cells := 1, slots := n + n / 2, locals := 68 } : Room) (va_Pc [.ref sl, .int (nI (n + 1))] (zPre (dC, dI) classes (zTyO cI cZ cF cO) ([(oc10 sl mc9 (.ref ea) z7), (oq ea cO n SA)] ++ va_pl L f) sz (zXL e0 mi (va_A ([(oc10 sl mc9 (.ref ea) z7), (oq ea cO n SA)] ++ va_pl L f) sz)))) (zQe (fun v9 t => ∃ (q9 : Nat), v9 = (some (.ref q9)) ∧ va_P (dC, dI) classes ([(oc10 sl mc9 (.ref q9) z7), (oq ea cO n SA), (oq q9 cO (n + n / 2) (va_cpy SA (fun _ => none) 0 0 n))] ++ va_pl L f) t.heap ∧ va_D (va_A ([(oc10 sl mc9 (.ref ea) z7), (oq ea cO n SA)] ++ va_pl L f) sz) ([(oc10 sl mc9 (.ref q9) z7), (oq ea cO n SA), (oq q9 cO (n + n / 2) (va_cpy SA (fun _ => none) 0 0 n))] ++ va_pl L f)) (va_A ([(oc10 sl mc9 (.ref ea) z7), (oq ea cO n SA)] ++ va_pl L f) sz)) 1 (n + n / 2) (va_A ([(oc10 sl mc9 (.ref ea) z7), (oq ea cO n SA)] ++ va_pl L f) sz) := by
  refine Met.ofW (cc := cJx4a65c_grow_92f84) (maxL := 4) (ret := (some (.array (.object "java/lang/Object")))) rfl rfl ?_
  intro p e s m args below meth c s₁ B hml hv
  obtain ⟨rfl, hsz, hP, hK, hD0, hXL⟩ := hv
  have hx := B.exec
  have hb := B.bytes
  have hr := B.returns
  have hts0 := atoms_spec (ws := .code yJx4a65c_grow_92f84 cJx4a65c_grow_92f84 4 (some (.array (.object "java/lang/Object"))) :: ws0) B.pre
  have hts : ∀ w9 ∈ ws0, w9.before ([.ref sl, .int (nI (n + 1))] : List Value).toArray s = true := fun w9 h => hts0 w9 (List.mem_cons_of_mem _ h)
  have hown : s.vm.findClass "java/util/ArrayList" = some m.cls := findClass_of_methodNamed B.named
  have hlocks := B.notSynchronized
  subst hsz
  have hD := hD0.self (sz := s.heap.size)
  clear hD0
  generalize hAe : va_A ([(oc10 sl mc9 (.ref ea) z7), (oq ea cO n SA)] ++ va_pl L f) s.heap.size = A at hD hXL ⊢
  have hA : ∀ q : Nat, s.heap.size ≤ q → A q := fun q h => by rw [← hAe]; exact Or.inr h
  clear hAe
  have hS : va_S A s.heap s.heap [] := va_S.rf
  have hXN := hXL.1
  have hK3 := hK.sub [0, 1, 2] rfl
  have hP : va_P (dC, dI) classes ([(oc10 sl mc9 (.ref ea) z7), (oq ea cO n SA)] ++ va_pl L f) s.heap := hP
  obtain ⟨Q9, hQ9⟩ : ∃ Q9 : State → Prop, Q9 = MQ below (zQe (fun v9 t => ∃ (q9 : Nat), v9 = (some (.ref q9)) ∧ va_P (dC, dI) classes ([(oc10 sl mc9 (.ref q9) z7), (oq ea cO n SA), (oq q9 cO (n + n / 2) (va_cpy SA (fun _ => none) 0 0 n))] ++ va_pl L f) t.heap ∧ va_D A ([(oc10 sl mc9 (.ref q9) z7), (oq ea cO n SA), (oq q9 cO (n + n / 2) (va_cpy SA (fun _ => none) 0 0 n))] ++ va_pl L f)) A) ([.ref sl, .int (nI (n + 1))] : List Value).toArray s 1 (n + n / 2) A := ⟨_, rfl⟩
  rw [← hQ9]
  have hl := lv_entry ([.ref sl, .int (nI (n + 1))]) (n := 4) (Nat.le_of_ble_eq_true rfl)
  rw [lg_entry_eq]
  generalize (lg_sl ([.ref sl, .int (nI (n + 1))]) ++ List.replicate (4 - (lg_sl ([.ref sl, .int (nI (n + 1))])).length) Slot.unset).toArray = ls at hl ⊢
  have hl : lv_has ls 4 [(0, .ref sl), (1, .int (nI (n + 1)))] := hl
  refine lv_aload_n hx hb dJx4a65c_grow_92f84_0 rfl (lv_at hl 0 rfl) ?_
  refine va_get (D := (dC, dI)) (ci := 10) (v := .ref ea) (C := RJx4a65c) (T := TJx4a65c) (N := 3) hx hb hts inJx4a65c hown hK hP 0 rfl rfl 1 (Nat.le_of_ble_eq_true rfl) (hts _ mw_296) (fun _ h9 => h9) rfl dJx4a65c_grow_92f84_1 ?_
  refine va_alen (v := nI n) hx hb hK hP 1 3 rfl rfl rfl dJx4a65c_grow_92f84_4 ?_
  refine lv_istore_n (lv' := [(2, .int (nI n)), (0, .ref sl), (1, .int (nI (n + 1)))]) hx hb dJx4a65c_grow_92f84_5 rfl hl (Nat.le_of_ble_eq_true rfl) rfl (fun ls hl => ?_)
  refine lv_iload_n hx hb dJx4a65c_grow_92f84_6 rfl (lv_at hl 0 rfl) ?_
  have b9_2 : zlt (n) := show n < 2147483648 by omega
  refine lv_if_gt (tgt := 20) hx hb dJx4a65c_grow_92f84_7 rfl (fun c_1 => ?_) (fun c_1 => ?_)
  · have c_1 : 0 < ((n : Nat) : Int) := zc_lt rfl (nI_toInt b9_2) c_1
    refine lv_iload_n hx hb dJx4a65c_grow_92f84_20 rfl (lv_at hl 0 rfl) ?_
    refine lv_iload_n hx hb dJx4a65c_grow_92f84_21 rfl (lv_at hl 2 rfl) ?_
    refine lv_iload_n hx hb dJx4a65c_grow_92f84_22 rfl (lv_at hl 0 rfl) ?_
    refine lv_isub hx hb dJx4a65c_grow_92f84_23 ?_
    refine zz_i (v := nI ((n + 1) - n)) (pk_sub (a := n + 1) (b := n) (by omega)) ?_
    refine lv_iload_n hx hb dJx4a65c_grow_92f84_24 rfl (lv_at hl 0 rfl) ?_
    refine lv_iconst (v := 1) hx hb dJx4a65c_grow_92f84_25 rfl ?_
    refine lv_ishr hx hb dJx4a65c_grow_92f84_26 ?_
    refine zz_i (v := nI (n / 2)) (zn_shr (by omega)) ?_
    obtain ⟨hPc, hDc, hFc, hI1⟩ := zi_sub (wc := []) hP hD hS hA [] rfl rfl
    refine zcall (st1 := [.int (nI (n + max ((n + 1) - n) (n / 2)))]) (va_runS (As := [.int (nI n), .int (nI ((n + 1) - n)), .int (nI (n / 2))]) (rest := []) ⟨hx, hb, hml, hown, hts⟩ (k_J_newLength l dC dI cI cZ cF s.heap.size n ((n + 1) - n) (n / 2) (by first | with_reducible assumption | omega) (by first | with_reducible assumption | omega) (by first | with_reducible assumption | omega) (by first | with_reducible assumption | omega)) (csS_88 hts rfl rfl ⟨Nat.le_of_ble_eq_true rfl, Nat.le_of_ble_eq_true rfl⟩) (zPS2 hPc hDc hK3 hXN) rfl rfl hl.1 rfl (lv_room (Nat.le_of_ble_eq_true rfl)) dJx4a65c_grow_92f84_27 ⟨Nat.zero_le _, Nat.zero_le _⟩) hS hFc hFc rfl (fun t H locs ht hB hk1 hS => ?_)
    obtain ⟨hP1, hD1⟩ := hB
    rw [ht] at hP1
    replace hP := z0 hP hD hk1 hP1 hI1
    clear hk1 hPc hDc hFc hP1 hD1 ht hI1
    refine zz_i (v := nI (n + n / 2)) (zn_eq (by omega)) ?_
    refine lv_istore_n (lv' := [(3, .int (nI (n + n / 2))), (2, .int (nI n)), (0, .ref sl), (1, .int (nI (n + 1)))]) hx hb dJx4a65c_grow_92f84_30 rfl hl (Nat.le_of_ble_eq_true rfl) rfl (fun ls hl => ?_)
    refine lv_aload_n hx hb dJx4a65c_grow_92f84_31 rfl (lv_at hl 2 rfl) ?_
    refine lv_aload_n hx hb dJx4a65c_grow_92f84_32 rfl (lv_at hl 2 rfl) ?_
    refine va_get (D := (dC, dI)) (ci := 10) (v := .ref ea) (C := RJx4a65c) (T := TJx4a65c) (N := 3) hx hb hts inJx4a65c hown hK hP 0 rfl rfl 1 (Nat.le_of_ble_eq_true rfl) (hts _ mw_296) (fun _ h9 => h9) rfl dJx4a65c_grow_92f84_33 ?_
    refine lv_iload_n hx hb dJx4a65c_grow_92f84_36 rfl (lv_at hl 0 rfl) ?_
    obtain ⟨hPc, hDc, hFc⟩ := zo_part (cx := [_]) hP hD hS hA [1] rfl rfl
    refine zcalle (va_runS (As := [.ref ea, .int (nI (n + n / 2))]) (rest := [.ref sl]) ⟨hx, hb, hml, hown, hts⟩ (k_J_copyOf2 l dC dI cI cZ cF H.size cO e0 mi ea n (n + n / 2) SA L f (by first | with_reducible assumption | omega) (by first | with_reducible assumption | omega) (by first | with_reducible assumption | assumption) (by first | with_reducible assumption | omega)) (csS_89 hts rfl rfl ⟨Nat.le_of_ble_eq_true rfl, Nat.le_of_ble_eq_true rfl⟩) (zPSL hPc hDc hK hXL hS hFc) rfl rfl hl.1 rfl (lv_room (Nat.le_of_ble_eq_true rfl)) dJx4a65c_grow_92f84_37 ⟨show (0 + 1) ≤ 1 by omega, show (0 + (n + n / 2)) ≤ n + n / 2 by omega⟩) hS hFc hFc (fun v9 t H locs ht hB hk1 hS => ?_)
    obtain ⟨q9, rfl, hP1, hD1⟩ := hB
    refine W.eq (g2 := F0 m 40 ls [.ref q9, .ref sl]) rfl ?_
    rw [ht] at hP1
    obtain ⟨hP, hD⟩ := znP (W2 := [_, (oq ea cO n SA), (oq q9 cO (n + n / 2) (va_cpy SA (fun _ => none) 0 0 n))]) hP hD hk1 hFc hP1 hD1 [1] [true] [true, false, false] [1, 2] (by decide +kernel) rfl rfl rfl rfl rfl
    clear hk1 hPc hDc hFc hP1 hD1 ht
    refine lv_dup_x1 hx hb dJx4a65c_grow_92f84_40 rfl rfl ?_
    refine va_put (D := (dC, dI)) (ci := 10) (v := .ref q9) (ty := .array (.object "java/lang/Object")) (C := RJx4a65c) (T := TJx4a65c) (N := 3) hx hb hts inJx4a65c tyJx4a65c tyJx4a65c_ok nmJx4a65c hown hK hP hD hS 0 rfl rfl 1 (by decide) (hts _ mw_296) (fun _ h9 => h9) rfl (by decide +kernel) rfl rfl (Nat.le_of_ble_eq_true rfl) dJx4a65c_grow_92f84_41 (fun H locs hP hD hS => ?_)
    obtain ⟨hP, hD⟩ := zre (W2 := ([(oc10 sl mc9 (.ref q9) z7), _, _] ++ va_pl L f)) hP hD rfl
    obtain ⟨hP9, hD9⟩ := zu_part (cx := [_, _, _]) hP hD [true, true, true] rfl rfl
    refine W.widen (k := 1) (n := n + n / 2) (by omega) (by omega) ?_
    rw [hQ9]
    exact W.aret hx hb hr (Or.inr ⟨_, rfl⟩) (Or.inr ⟨_, rfl⟩) (fun t ht hW => ⟨⟨_, rfl, q9, rfl, by rw [ht]; exact hP9, hD9⟩, hS.F ht⟩) hS.2.2 dJx4a65c_grow_92f84_44
  · have c_1 : ((n : Nat) : Int) ≤ 0 := zc_nlt rfl (nI_toInt b9_2) c_1
    exfalso; omega
set_option maxHeartbeats 4000000 in
set_option maxRecDepth 100000 in
theorem k_AL_grow_0 (l : Launch) (dC : Nat → ClassId) (dI : Nat → Nat → Nat) (cI cZ cF : ClassId) (sz : Nat) (cO : ClassId) (e0 : Nat) (mi : Nat) (sl : Nat) (mc9 : Int32) : Met l yJx4a65c_grow_d5877 (.code yJx4a65c_grow_d5877 cJx4a65c_grow_d5877 1 (some (.array (.object "java/lang/Object"))) :: ws0) ({ frames := 2, cells := 1, slots := 10, locals := 37 } : Room) (va_Pc [.ref sl] (zPre (dC, dI) classes (zTyO cI cZ cF cO) [(oc10 sl mc9 (.ref e0) 0)] sz (zXL e0 mi (va_A [(oc10 sl mc9 (.ref e0) 0)] sz)))) (zQe (fun v9 t => ∃ (q9 : Nat), v9 = (some (.ref q9)) ∧ va_P (dC, dI) classes [(oc10 sl mc9 (.ref q9) 0), (oq q9 cO 10 (fun _ => none))] t.heap ∧ va_D (va_A [(oc10 sl mc9 (.ref e0) 0)] sz) [(oc10 sl mc9 (.ref q9) 0), (oq q9 cO 10 (fun _ => none))]) (va_A [(oc10 sl mc9 (.ref e0) 0)] sz)) 1 10 (va_A [(oc10 sl mc9 (.ref e0) 0)] sz) := by
  refine Met.ofW (cc := cJx4a65c_grow_d5877) (maxL := 1) (ret := (some (.array (.object "java/lang/Object")))) rfl rfl ?_
  intro p e s m args below meth c s₁ B hml hv
  obtain ⟨rfl, hsz, hP, hK, hD0, hXL⟩ := hv
  have hx := B.exec
  have hb := B.bytes
  have hr := B.returns
  have hts0 := atoms_spec (ws := .code yJx4a65c_grow_d5877 cJx4a65c_grow_d5877 1 (some (.array (.object "java/lang/Object"))) :: ws0) B.pre
  have hts : ∀ w9 ∈ ws0, w9.before ([.ref sl] : List Value).toArray s = true := fun w9 h => hts0 w9 (List.mem_cons_of_mem _ h)
  have hown : s.vm.findClass "java/util/ArrayList" = some m.cls := findClass_of_methodNamed B.named
  have hlocks := B.notSynchronized
  subst hsz
  have hD := hD0.self (sz := s.heap.size)
  clear hD0
  generalize hAe : va_A [(oc10 sl mc9 (.ref e0) 0)] s.heap.size = A at hD hXL ⊢
  have hA : ∀ q : Nat, s.heap.size ≤ q → A q := fun q h => by rw [← hAe]; exact Or.inr h
  clear hAe
  have hS : va_S A s.heap s.heap [] := va_S.rf
  have hXN := hXL.1
  have hK3 := hK.sub [0, 1, 2] rfl
  have hP : va_P (dC, dI) classes [(oc10 sl mc9 (.ref e0) 0)] s.heap := hP
  obtain ⟨Q9, hQ9⟩ : ∃ Q9 : State → Prop, Q9 = MQ below (zQe (fun v9 t => ∃ (q9 : Nat), v9 = (some (.ref q9)) ∧ va_P (dC, dI) classes [(oc10 sl mc9 (.ref q9) 0), (oq q9 cO 10 (fun _ => none))] t.heap ∧ va_D A [(oc10 sl mc9 (.ref q9) 0), (oq q9 cO 10 (fun _ => none))]) A) ([.ref sl] : List Value).toArray s 1 10 A := ⟨_, rfl⟩
  rw [← hQ9]
  have hl := lv_entry ([.ref sl]) (n := 1) (Nat.le_of_ble_eq_true rfl)
  rw [lg_entry_eq]
  generalize (lg_sl ([.ref sl]) ++ List.replicate (1 - (lg_sl ([.ref sl])).length) Slot.unset).toArray = ls at hl ⊢
  have hl : lv_has ls 1 [(0, .ref sl)] := hl
  refine lv_aload_n hx hb dJx4a65c_grow_d5877_0 rfl (lv_at hl 0 rfl) ?_
  refine lv_aload_n hx hb dJx4a65c_grow_d5877_1 rfl (lv_at hl 0 rfl) ?_
  refine va_get (D := (dC, dI)) (ci := 10) (v := .int 0) (C := RJx4a65c) (T := TJx4a65c) (N := 3) hx hb hts inJx4a65c hown hK hP 0 rfl rfl 2 (Nat.le_of_ble_eq_true rfl) (hts _ mw_297) (fun _ h9 => h9) rfl dJx4a65c_grow_d5877_2 ?_
  refine lv_iconst (v := 1) hx hb dJx4a65c_grow_d5877_5 rfl ?_
  refine lv_iadd hx hb dJx4a65c_grow_d5877_6 ?_
  refine zz_i (v := 1) (by decide) ?_
  obtain ⟨hPc, hDc, hFc⟩ := zo_sub (wc := [_]) hP hD hS hA [0] rfl rfl
  refine zcalle (va_runV (As := [.int 1]) (rest := []) ⟨hx, hb, hml, hown, hts⟩ (k_AL_growi_0 l dC dI cI cZ cF s.heap.size cO e0 mi sl 1 mc9 0 (by first | with_reducible assumption | omega)) (csV_82 hts rfl rfl ⟨Nat.le_of_ble_eq_true rfl, Nat.le_of_ble_eq_true rfl⟩) (zPVL (q0 := 0) (ci := 10) hPc hDc hK hXL hS hFc rfl rfl) rfl rfl hl.1 rfl (lv_room (Nat.le_of_ble_eq_true rfl)) dJx4a65c_grow_d5877_7 ⟨show (0 + 1) ≤ 1 by omega, show (0 + 10) ≤ 10 by omega⟩) hS hFc hFc (fun v9 t H locs ht hB hk1 hS => ?_)
  obtain ⟨q9, rfl, hP1, hD1⟩ := hB
  refine W.eq (g2 := F0 m 10 ls [.ref q9]) rfl ?_
  rw [ht] at hP1
  obtain ⟨hP, hD⟩ := zn (W2 := [(oc10 sl mc9 (.ref q9) 0), (oq q9 cO 10 (fun _ => none))]) hP hD hk1 hFc hP1 hD1 [0] [] [false, false] [0, 1] (by decide +kernel) rfl rfl rfl rfl rfl
  clear hk1 hPc hDc hFc hP1 hD1 ht
  obtain ⟨hP9, hD9⟩ := zu_sub (wc := [_, _]) hP hD [true, true] rfl rfl
  refine W.widen (k := 1) (n := 10) (by omega) (by omega) ?_
  rw [hQ9]
  exact W.aret hx hb hr (Or.inr ⟨_, rfl⟩) (Or.inr ⟨_, rfl⟩) (fun t ht hW => ⟨⟨_, rfl, q9, rfl, by rw [ht]; exact hP9, hD9⟩, hS.F ht⟩) hS.2.2 dJx4a65c_grow_d5877_10
set_option maxHeartbeats 4000000 in
set_option maxRecDepth 100000 in
theorem k_AL_grow_g (l : Launch) (dC : Nat → ClassId) (dI : Nat → Nat → Nat) (cI cZ cF : ClassId) (sz : Nat) (cO : ClassId) (e0 : Nat) (mi : Nat) (sl : Nat) (ea : Nat) (n : Nat) (mc9 : Int32) (SA : Nat → Option Nat) (L : List Nat) (f : Nat → va_E) (hn10 : 10 ≤ n) (hn : n ≤ 100000) (hel : ∀ i, i < n → ∃ y vs, SA i = some y ∧ y ∈ L ∧ f y = .inr (11, vs)) : Met l yJx4a65c_grow_d5877 (.code yJx4a65c_grow_d5877 cJx4a65c_grow_d5877 1 (some (.array (.object "java/lang/Object"))) :: ws0) ({ frames := 4, cells := 1, slots := n + n / 2, locals := 91 } : Room) (va_Pc [.ref sl] (zPre (dC, dI) classes (zTyO cI cZ cF cO) ([(oc10 sl mc9 (.ref ea) (nI n)), (oq ea cO n SA)] ++ va_pl L f) sz (zXL e0 mi (va_A ([(oc10 sl mc9 (.ref ea) (nI n)), (oq ea cO n SA)] ++ va_pl L f) sz)))) (zQe (fun v9 t => ∃ (q9 : Nat), v9 = (some (.ref q9)) ∧ va_P (dC, dI) classes ([(oc10 sl mc9 (.ref q9) (nI n)), (oq ea cO n SA), (oq q9 cO (n + n / 2) (va_cpy SA (fun _ => none) 0 0 n))] ++ va_pl L f) t.heap ∧ va_D (va_A ([(oc10 sl mc9 (.ref ea) (nI n)), (oq ea cO n SA)] ++ va_pl L f) sz) ([(oc10 sl mc9 (.ref q9) (nI n)), (oq ea cO n SA), (oq q9 cO (n + n / 2) (va_cpy SA (fun _ => none) 0 0 n))] ++ va_pl L f)) (va_A ([(oc10 sl mc9 (.ref ea) (nI n)), (oq ea cO n SA)] ++ va_pl L f) sz)) 1 (n + n / 2) (va_A ([(oc10 sl mc9 (.ref ea) (nI n)), (oq ea cO n SA)] ++ va_pl L f) sz) := by
  refine Met.ofW (cc := cJx4a65c_grow_d5877) (maxL := 1) (ret := (some (.array (.object "java/lang/Object")))) rfl rfl ?_
  intro p e s m args below meth c s₁ B hml hv
  obtain ⟨rfl, hsz, hP, hK, hD0, hXL⟩ := hv
  have hx := B.exec
  have hb := B.bytes
  have hr := B.returns
  have hts0 := atoms_spec (ws := .code yJx4a65c_grow_d5877 cJx4a65c_grow_d5877 1 (some (.array (.object "java/lang/Object"))) :: ws0) B.pre
  have hts : ∀ w9 ∈ ws0, w9.before ([.ref sl] : List Value).toArray s = true := fun w9 h => hts0 w9 (List.mem_cons_of_mem _ h)
  have hown : s.vm.findClass "java/util/ArrayList" = some m.cls := findClass_of_methodNamed B.named
  have hlocks := B.notSynchronized
  subst hsz
  have hD := hD0.self (sz := s.heap.size)
  clear hD0
  generalize hAe : va_A ([(oc10 sl mc9 (.ref ea) (nI n)), (oq ea cO n SA)] ++ va_pl L f) s.heap.size = A at hD hXL ⊢
  have hA : ∀ q : Nat, s.heap.size ≤ q → A q := fun q h => by rw [← hAe]; exact Or.inr h
  clear hAe
  have hS : va_S A s.heap s.heap [] := va_S.rf
  have hXN := hXL.1
  have hK3 := hK.sub [0, 1, 2] rfl
  have hP : va_P (dC, dI) classes ([(oc10 sl mc9 (.ref ea) (nI n)), (oq ea cO n SA)] ++ va_pl L f) s.heap := hP
  obtain ⟨Q9, hQ9⟩ : ∃ Q9 : State → Prop, Q9 = MQ below (zQe (fun v9 t => ∃ (q9 : Nat), v9 = (some (.ref q9)) ∧ va_P (dC, dI) classes ([(oc10 sl mc9 (.ref q9) (nI n)), (oq ea cO n SA), (oq q9 cO (n + n / 2) (va_cpy SA (fun _ => none) 0 0 n))] ++ va_pl L f) t.heap ∧ va_D A ([(oc10 sl mc9 (.ref q9) (nI n)), (oq ea cO n SA), (oq q9 cO (n + n / 2) (va_cpy SA (fun _ => none) 0 0 n))] ++ va_pl L f)) A) ([.ref sl] : List Value).toArray s 1 (n + n / 2) A := ⟨_, rfl⟩
  rw [← hQ9]
  have hl := lv_entry ([.ref sl]) (n := 1) (Nat.le_of_ble_eq_true rfl)
  rw [lg_entry_eq]
  generalize (lg_sl ([.ref sl]) ++ List.replicate (1 - (lg_sl ([.ref sl])).length) Slot.unset).toArray = ls at hl ⊢
  have hl : lv_has ls 1 [(0, .ref sl)] := hl
  refine lv_aload_n hx hb dJx4a65c_grow_d5877_0 rfl (lv_at hl 0 rfl) ?_
  refine lv_aload_n hx hb dJx4a65c_grow_d5877_1 rfl (lv_at hl 0 rfl) ?_
  refine va_get (D := (dC, dI)) (ci := 10) (v := .int (nI n)) (C := RJx4a65c) (T := TJx4a65c) (N := 3) hx hb hts inJx4a65c hown hK hP 0 rfl rfl 2 (Nat.le_of_ble_eq_true rfl) (hts _ mw_297) (fun _ h9 => h9) rfl dJx4a65c_grow_d5877_2 ?_
  refine lv_iconst (v := 1) hx hb dJx4a65c_grow_d5877_5 rfl ?_
  refine lv_iadd hx hb dJx4a65c_grow_d5877_6 ?_
  refine zz_i (v := nI (n + 1)) (nI_add n 1) ?_
  obtain ⟨hPc, hDc, hFc⟩ := zo_part (cx := [_, _]) hP hD hS hA [0, 1] rfl rfl
  refine zcalle (va_runV (As := [.int (nI (n + 1))]) (rest := []) ⟨hx, hb, hml, hown, hts⟩ (k_AL_growi_g l dC dI cI cZ cF s.heap.size cO e0 mi sl ea n mc9 (nI n) SA L f (by first | with_reducible assumption | omega) (by first | with_reducible assumption | omega) (by first | with_reducible assumption | assumption)) (csV_82 hts rfl rfl ⟨Nat.le_of_ble_eq_true rfl, Nat.le_of_ble_eq_true rfl⟩) (zPVL (q0 := 0) (ci := 10) hPc hDc hK hXL hS hFc rfl rfl) rfl rfl hl.1 rfl (lv_room (Nat.le_of_ble_eq_true rfl)) dJx4a65c_grow_d5877_7 ⟨show (0 + 1) ≤ 1 by omega, show (0 + (n + n / 2)) ≤ n + n / 2 by omega⟩) hS hFc hFc (fun v9 t H locs ht hB hk1 hS => ?_)
  obtain ⟨q9, rfl, hP1, hD1⟩ := hB
  refine W.eq (g2 := F0 m 10 ls [.ref q9]) rfl ?_
  rw [ht] at hP1
  obtain ⟨hP, hD⟩ := znP (W2 := [(oc10 sl mc9 (.ref q9) (nI n)), (oq ea cO n SA), (oq q9 cO (n + n / 2) (va_cpy SA (fun _ => none) 0 0 n))]) hP hD hk1 hFc hP1 hD1 [0, 1] [] [false, false, false] [0, 1, 2] (by decide +kernel) rfl rfl rfl rfl rfl
  clear hk1 hPc hDc hFc hP1 hD1 ht
  obtain ⟨hP9, hD9⟩ := zu_part (cx := [_, _, _]) hP hD [true, true, true] rfl rfl
  refine W.widen (k := 1) (n := n + n / 2) (by omega) (by omega) ?_
  rw [hQ9]
  exact W.aret hx hb hr (Or.inr ⟨_, rfl⟩) (Or.inr ⟨_, rfl⟩) (fun t ht hW => ⟨⟨_, rfl, q9, rfl, by rw [ht]; exact hP9, hD9⟩, hS.F ht⟩) hS.2.2 dJx4a65c_grow_d5877_10
set_option maxHeartbeats 4000000 in
set_option maxRecDepth 100000 in
theorem k_AL_add3_0 (l : Launch) (dC : Nat → ClassId) (dI : Nat → Nat → Nat) (cI cZ cF : ClassId) (sz : Nat) (cO : ClassId) (e0 : Nat) (mi : Nat) (sl : Nat) (mc9 : Int32) (sp : Nat) (g1 : Int32) (g2 : Int32) (g3 : Int32) (md9 : Value) (ch9 : Value) : zML l yJx4a65c_add_72be8 cJx4a65c_add_72be8 4 none ({ frames := 3, cells := 1, slots := 10, locals := 57 } : Room) [.ref sl, .ref sp, .ref e0, .int 0] (dC, dI) (zTyO cI cZ cF cO) e0 mi [(oc10 sl mc9 (.ref e0) 0), (oc11 sp g1 g2 g3 md9 ch9)] sz none (fun A t => ∃ (q9 : Nat), zPD (dC, dI) classes A [(oc10 sl mc9 (.ref q9) (nI 1)), (oc11 sp g1 g2 g3 md9 ch9), (oq q9 cO 10 (va_up (fun _ => none) 0 (some sp)))] t.heap) 1 10 := by
  refine zInL (own := "java/util/ArrayList") (loc := [(0, .ref sl), (1, .ref sp), (2, .ref e0), (3, .int 0)]) rfl rfl rfl rfl (fun p e s m below meth c hx hb hr hts hown hlocks hml hnm9 A hA hS hP hD hK hXL hXN hK3 Q9 hQ9 ls hl => ?_)
  refine lv_iload_n hx hb dJx4a65c_add_72be8_0 rfl (lv_at hl 3 rfl) ?_
  refine lv_aload_n hx hb dJx4a65c_add_72be8_1 rfl (lv_at hl 2 rfl) ?_
  refine z_alen0 hx hb hXL.2.2.2.2 hS dJx4a65c_add_72be8_2 ?_
  refine lv_icmp_ne (tgt := 11) hx hb dJx4a65c_add_72be8_3 rfl (fun c_1 => ?_) (fun c_1 => ?_)
  · exact absurd (by decide) c_1
  · refine lv_aload_n hx hb dJx4a65c_add_72be8_6 rfl (lv_at hl 0 rfl) ?_
    obtain ⟨hPc, hDc, hFc⟩ := zo_sub (wc := [_]) hP hD hS hA [0] rfl rfl
    refine zcalle (va_runV (As := []) (rest := []) ⟨hx, hb, hml, hown, hts⟩ (k_AL_grow_0 l dC dI cI cZ cF s.heap.size cO e0 mi sl mc9 ) (csV_83 hts rfl rfl ⟨Nat.le_of_ble_eq_true rfl, Nat.le_of_ble_eq_true rfl⟩) (zPVL (q0 := 0) (ci := 10) hPc hDc hK hXL hS hFc rfl rfl) rfl rfl hl.1 rfl (lv_room (Nat.le_of_ble_eq_true rfl)) dJx4a65c_add_72be8_7 ⟨show (0 + 1) ≤ 1 by omega, show (0 + 10) ≤ 10 by omega⟩) hS hFc hFc (fun v9 t H locs ht hB hk1 hS => ?_)
    obtain ⟨q9, rfl, hP1, hD1⟩ := hB
    refine W.eq (g2 := F0 m 10 ls [.ref q9]) rfl ?_
    rw [ht] at hP1
    obtain ⟨hP, hD⟩ := zn (W2 := [_, (oc10 sl mc9 (.ref q9) 0), (oq q9 cO 10 (fun _ => none))]) hP hD hk1 hFc hP1 hD1 [0] [false, true] [true, false, false] [1, 2] (by decide +kernel) rfl rfl rfl rfl rfl
    clear hk1 hPc hDc hFc hP1 hD1 ht
    refine lv_astore_n (lv' := [(2, .ref q9), (0, .ref sl), (1, .ref sp), (3, .int 0)]) hx hb dJx4a65c_add_72be8_10 rfl hl (Nat.le_of_ble_eq_true rfl) rfl (fun ls hl => ?_)
    refine lv_aload_n hx hb dJx4a65c_add_72be8_11 rfl (lv_at hl 0 rfl) ?_
    refine lv_iload_n hx hb dJx4a65c_add_72be8_12 rfl (lv_at hl 3 rfl) ?_
    refine lv_aload_n hx hb dJx4a65c_add_72be8_13 rfl (lv_at hl 2 rfl) ?_
    refine z_aastO hx hb hK hP hD hS 2 3 0 11 rfl rfl hXN.2.1 rfl rfl (e := 0) rfl (Nat.le_of_ble_eq_true rfl) (Nat.le_of_ble_eq_true rfl) dJx4a65c_add_72be8_14 (fun H locs hP hD hS => ?_)
    obtain ⟨hP, hD⟩ := zre (W2 := [_, _, (oq q9 cO 10 (va_up (fun _ => none) 0 (some sp)))]) hP hD rfl
    refine lv_aload_n hx hb dJx4a65c_add_72be8_15 rfl (lv_at hl 1 rfl) ?_
    refine lv_iload_n hx hb dJx4a65c_add_72be8_16 rfl (lv_at hl 3 rfl) ?_
    refine lv_iconst (v := 1) hx hb dJx4a65c_add_72be8_17 rfl ?_
    refine lv_iadd hx hb dJx4a65c_add_72be8_18 ?_
    refine zz_i (v := 1) (by decide) ?_
    refine zz_i (v := nI 1) (by decide) ?_
    refine va_put (D := (dC, dI)) (ci := 10) (v := .int (nI 1)) (ty := .int) (C := RJx4a65c) (T := TJx4a65c) (N := 3) hx hb hts inJx4a65c tyJx4a65c tyJx4a65c_ok nmJx4a65c hown hK hP hD hS 1 rfl rfl 2 (by decide) (hts _ mw_297) (fun _ h9 => h9) rfl (by decide +kernel) rfl rfl (Nat.le_of_ble_eq_true rfl) dJx4a65c_add_72be8_19 (fun H locs hP hD hS => ?_)
    obtain ⟨hP, hD⟩ := zre (W2 := [_, (oc10 sl mc9 (.ref q9) (nI 1)), _]) hP hD rfl
    obtain ⟨hP9, hD9⟩ := zq_sub (wc := [_, _, _]) hP hD [1, 0, 2] rfl rfl
    refine W.widen (k := 1) (n := 10) (by omega) (by omega) ?_
    rw [hQ9]
    exact W.vret hx hb hr (fun t ht hW => ⟨⟨rfl, q9, by rw [ht]; exact hP9, hD9⟩, hS.F ht⟩) hS.2.2 dJx4a65c_add_72be8_22
set_option maxHeartbeats 4000000 in
set_option maxRecDepth 100000 in
theorem k_AL_add3_r (l : Launch) (dC : Nat → ClassId) (dI : Nat → Nat → Nat) (cI cZ cF : ClassId) (sz : Nat) (cO : ClassId) (e0 : Nat) (mi : Nat) (sl : Nat) (ea : Nat) (n9 : Nat) (mc9 : Int32) (cp9 : Nat) (SA : Nat → Option Nat) (sp : Nat) (g1 : Int32) (g2 : Int32) (g3 : Int32) (md9 : Value) (ch9 : Value) (hnc : n9 < cp9) (hcp : cp9 < 2147483648) : zML l yJx4a65c_add_72be8 cJx4a65c_add_72be8 4 none ({ frames := 0, cells := 0, slots := 0, locals := 0 } : Room) [.ref sl, .ref sp, .ref ea, .int (nI n9)] (dC, dI) (zTyO cI cZ cF cO) e0 mi [(oc10 sl mc9 (.ref ea) (nI n9)), (oc11 sp g1 g2 g3 md9 ch9), (oq ea cO cp9 SA)] sz none (fun A t => zPD (dC, dI) classes A [(oc10 sl mc9 (.ref ea) (nI (n9 + 1))), (oc11 sp g1 g2 g3 md9 ch9), (oq ea cO cp9 (va_up SA n9 (some sp)))] t.heap) 0 0 := by
  refine zInL (own := "java/util/ArrayList") (loc := [(0, .ref sl), (1, .ref sp), (2, .ref ea), (3, .int (nI n9))]) rfl rfl rfl rfl (fun p e s m below meth c hx hb hr hts hown hlocks hml hnm9 A hA hS hP hD hK hXL hXN hK3 Q9 hQ9 ls hl => ?_)
  refine lv_iload_n hx hb dJx4a65c_add_72be8_0 rfl (lv_at hl 3 rfl) ?_
  refine lv_aload_n hx hb dJx4a65c_add_72be8_1 rfl (lv_at hl 2 rfl) ?_
  refine va_alen (v := nI cp9) hx hb hK hP 2 3 rfl rfl rfl dJx4a65c_add_72be8_2 ?_
  have b9_2 : zlt (n9) := show n9 < 2147483648 by omega
  have b9_3 : zlt (cp9) := show cp9 < 2147483648 by omega
  refine lv_icmp_ne (tgt := 11) hx hb dJx4a65c_add_72be8_3 rfl (fun c_1 => ?_) (fun c_1 => ?_)
  · have c_1 : ¬ ((n9 : Nat) : Int) = ((cp9 : Nat) : Int) := zc_ne (nI_toInt b9_2) (nI_toInt b9_3) c_1
    refine lv_aload_n hx hb dJx4a65c_add_72be8_11 rfl (lv_at hl 2 rfl) ?_
    refine lv_iload_n hx hb dJx4a65c_add_72be8_12 rfl (lv_at hl 3 rfl) ?_
    refine lv_aload_n hx hb dJx4a65c_add_72be8_13 rfl (lv_at hl 1 rfl) ?_
    have b9_4 : n9 < cp9 := by omega
    refine z_aastO hx hb hK hP hD hS 2 3 1 11 rfl rfl hXN.2.1 rfl rfl (e := n9) rfl b9_4 b9_3 dJx4a65c_add_72be8_14 (fun H locs hP hD hS => ?_)
    obtain ⟨hP, hD⟩ := zre (W2 := [_, _, (oq ea cO cp9 (va_up SA n9 (some sp)))]) hP hD rfl
    refine lv_aload_n hx hb dJx4a65c_add_72be8_15 rfl (lv_at hl 0 rfl) ?_
    refine lv_iload_n hx hb dJx4a65c_add_72be8_16 rfl (lv_at hl 3 rfl) ?_
    refine lv_iconst (v := 1) hx hb dJx4a65c_add_72be8_17 rfl ?_
    refine lv_iadd hx hb dJx4a65c_add_72be8_18 ?_
    refine zz_i (v := nI (n9 + 1)) (nI_add n9 1) ?_
    refine va_put (D := (dC, dI)) (ci := 10) (v := .int (nI (n9 + 1))) (ty := .int) (C := RJx4a65c) (T := TJx4a65c) (N := 3) hx hb hts inJx4a65c tyJx4a65c tyJx4a65c_ok nmJx4a65c hown hK hP hD hS 0 rfl rfl 2 (by decide) (hts _ mw_297) (fun _ h9 => h9) rfl (by decide +kernel) rfl rfl (Nat.le_of_ble_eq_true rfl) dJx4a65c_add_72be8_19 (fun H locs hP hD hS => ?_)
    obtain ⟨hP, hD⟩ := zre (W2 := [(oc10 sl mc9 (.ref ea) (nI (n9 + 1))), _, _]) hP hD rfl
    obtain ⟨hP9, hD9⟩ := zu_sub (wc := [_, _, _]) hP hD [true, true, true] rfl rfl
    rw [hQ9]
    exact W.vret hx hb hr (fun t ht hW => ⟨⟨rfl, by rw [ht]; exact hP9, hD9⟩, hS.F ht⟩) hS.2.2 dJx4a65c_add_72be8_22
  · have c_1 : ((n9 : Nat) : Int) = ((cp9 : Nat) : Int) := zc_eq (nI_toInt b9_2) (nI_toInt b9_3) c_1
    exfalso; omega
set_option maxHeartbeats 4000000 in
set_option maxRecDepth 100000 in
theorem k_AL_add3_g (l : Launch) (dC : Nat → ClassId) (dI : Nat → Nat → Nat) (cI cZ cF : ClassId) (sz : Nat) (cO : ClassId) (e0 : Nat) (mi : Nat) (sl : Nat) (ea : Nat) (n : Nat) (mc9 : Int32) (SA : Nat → Option Nat) (sp : Nat) (g1 : Int32) (g2 : Int32) (g3 : Int32) (md9 : Value) (ch9 : Value) (L : List Nat) (f : Nat → va_E) (hn10 : 10 ≤ n) (hn : n ≤ 100000) (hel : ∀ i, i < n → ∃ y vs, SA i = some y ∧ y ∈ L ∧ f y = .inr (11, vs)) : zML l yJx4a65c_add_72be8 cJx4a65c_add_72be8 4 none ({ frames := 5, cells := 1, slots := n + n / 2, locals := 111 } : Room) [.ref sl, .ref sp, .ref ea, .int (nI n)] (dC, dI) (zTyO cI cZ cF cO) e0 mi ([(oc10 sl mc9 (.ref ea) (nI n)), (oc11 sp g1 g2 g3 md9 ch9), (oq ea cO n SA)] ++ va_pl L f) sz none (fun A t => ∃ (q9 : Nat), zPD (dC, dI) classes A ([(oc10 sl mc9 (.ref q9) (nI (n + 1))), (oc11 sp g1 g2 g3 md9 ch9), (oq ea cO n SA), (oq q9 cO (n + n / 2) (va_up (va_cpy SA (fun _ => none) 0 0 n) n (some sp)))] ++ va_pl L f) t.heap) 1 (n + n / 2) := by
  refine zInL (own := "java/util/ArrayList") (loc := [(0, .ref sl), (1, .ref sp), (2, .ref ea), (3, .int (nI n))]) rfl rfl rfl rfl (fun p e s m below meth c hx hb hr hts hown hlocks hml hnm9 A hA hS hP hD hK hXL hXN hK3 Q9 hQ9 ls hl => ?_)
  refine lv_iload_n hx hb dJx4a65c_add_72be8_0 rfl (lv_at hl 3 rfl) ?_
  refine lv_aload_n hx hb dJx4a65c_add_72be8_1 rfl (lv_at hl 2 rfl) ?_
  refine va_alen (v := nI n) hx hb hK hP 2 3 rfl rfl rfl dJx4a65c_add_72be8_2 ?_
  have b9_2 : zlt (n) := show n < 2147483648 by omega
  refine lv_icmp_ne (tgt := 11) hx hb dJx4a65c_add_72be8_3 rfl (fun c_1 => ?_) (fun c_1 => ?_)
  · have c_1 : ¬ ((n : Nat) : Int) = ((n : Nat) : Int) := zc_ne (nI_toInt b9_2) (nI_toInt b9_2) c_1
    exfalso; omega
  · have c_1 : ((n : Nat) : Int) = ((n : Nat) : Int) := zc_eq (nI_toInt b9_2) (nI_toInt b9_2) c_1
    refine lv_aload_n hx hb dJx4a65c_add_72be8_6 rfl (lv_at hl 0 rfl) ?_
    obtain ⟨hPc, hDc, hFc⟩ := zo_part (cx := [_, _]) hP hD hS hA [0, 2] rfl rfl
    refine zcalle (va_runV (As := []) (rest := []) ⟨hx, hb, hml, hown, hts⟩ (k_AL_grow_g l dC dI cI cZ cF s.heap.size cO e0 mi sl ea n mc9 SA L f (by first | with_reducible assumption | omega) (by first | with_reducible assumption | omega) (by first | with_reducible assumption | assumption)) (csV_83 hts rfl rfl ⟨Nat.le_of_ble_eq_true rfl, Nat.le_of_ble_eq_true rfl⟩) (zPVL (q0 := 0) (ci := 10) hPc hDc hK hXL hS hFc rfl rfl) rfl rfl hl.1 rfl (lv_room (Nat.le_of_ble_eq_true rfl)) dJx4a65c_add_72be8_7 ⟨show (0 + 1) ≤ 1 by omega, show (0 + (n + n / 2)) ≤ n + n / 2 by omega⟩) hS hFc hFc (fun v9 t H locs ht hB hk1 hS => ?_)
    obtain ⟨q9, rfl, hP1, hD1⟩ := hB
    refine W.eq (g2 := F0 m 10 ls [.ref q9]) rfl ?_
    rw [ht] at hP1
    obtain ⟨hP, hD⟩ := znP (W2 := [_, (oc10 sl mc9 (.ref q9) (nI n)), (oq ea cO n SA), (oq q9 cO (n + n / 2) (va_cpy SA (fun _ => none) 0 0 n))]) hP hD hk1 hFc hP1 hD1 [0, 2] [false, true] [true, false, false, false] [1, 2, 3] (by decide +kernel) rfl rfl rfl rfl rfl
    clear hk1 hPc hDc hFc hP1 hD1 ht
    refine lv_astore_n (lv' := [(2, .ref q9), (0, .ref sl), (1, .ref sp), (3, .int (nI n))]) hx hb dJx4a65c_add_72be8_10 rfl hl (Nat.le_of_ble_eq_true rfl) rfl (fun ls hl => ?_)
    refine lv_aload_n hx hb dJx4a65c_add_72be8_11 rfl (lv_at hl 0 rfl) ?_
    refine lv_iload_n hx hb dJx4a65c_add_72be8_12 rfl (lv_at hl 3 rfl) ?_
    refine lv_aload_n hx hb dJx4a65c_add_72be8_13 rfl (lv_at hl 2 rfl) ?_
    have b9_3 : n < (n + n / 2) := by omega
    have b9_4 : zlt ((n + n / 2)) := show (n + n / 2) < 2147483648 by omega
    refine z_aastO hx hb hK hP hD hS 3 3 0 11 rfl rfl hXN.2.1 rfl rfl (e := n) rfl b9_3 b9_4 dJx4a65c_add_72be8_14 (fun H locs hP hD hS => ?_)
    obtain ⟨hP, hD⟩ := zre (W2 := ([_, _, _, (oq q9 cO (n + n / 2) (va_up (va_cpy SA (fun _ => none) 0 0 n) n (some sp)))] ++ va_pl L f)) hP hD rfl
    refine lv_aload_n hx hb dJx4a65c_add_72be8_15 rfl (lv_at hl 1 rfl) ?_
    refine lv_iload_n hx hb dJx4a65c_add_72be8_16 rfl (lv_at hl 3 rfl) ?_
    refine lv_iconst (v := 1) hx hb dJx4a65c_add_72be8_17 rfl ?_
    refine lv_iadd hx hb dJx4a65c_add_72be8_18 ?_
    refine zz_i (v := nI (n + 1)) (nI_add n 1) ?_
    refine va_put (D := (dC, dI)) (ci := 10) (v := .int (nI (n + 1))) (ty := .int) (C := RJx4a65c) (T := TJx4a65c) (N := 3) hx hb hts inJx4a65c tyJx4a65c tyJx4a65c_ok nmJx4a65c hown hK hP hD hS 1 rfl rfl 2 (by decide) (hts _ mw_297) (fun _ h9 => h9) rfl (by decide +kernel) rfl rfl (Nat.le_of_ble_eq_true rfl) dJx4a65c_add_72be8_19 (fun H locs hP hD hS => ?_)
    obtain ⟨hP, hD⟩ := zre (W2 := ([_, (oc10 sl mc9 (.ref q9) (nI (n + 1))), _, _] ++ va_pl L f)) hP hD rfl
    obtain ⟨hP9, hD9⟩ := zq_part (cx := [_, _, _, _]) hP hD [1, 0, 2, 3] rfl rfl
    refine W.widen (k := 1) (n := n + n / 2) (by omega) (by omega) ?_
    rw [hQ9]
    exact W.vret hx hb hr (fun t ht hW => ⟨⟨rfl, q9, by rw [ht]; exact hP9, hD9⟩, hS.F ht⟩) hS.2.2 dJx4a65c_add_72be8_22
set_option maxHeartbeats 4000000 in
set_option maxRecDepth 100000 in
theorem k_AL_add_0 (l : Launch) (dC : Nat → ClassId) (dI : Nat → Nat → Nat) (cI cZ cF : ClassId) (sz : Nat) (cO : ClassId) (e0 : Nat) (mi : Nat) (sl : Nat) (mc9 : Int32) (sp : Nat) (g1 : Int32) (g2 : Int32) (g3 : Int32) (md9 : Value) (ch9 : Value) : zML l yJx4a65c_add_9ea2d cJx4a65c_add_9ea2d 2 (some .boolean) ({ frames := 4, cells := 1, slots := 10, locals := 80 } : Room) [.ref sl, .ref sp] (dC, dI) (zTyO cI cZ cF cO) e0 mi [(oc10 sl mc9 (.ref e0) 0), (oc11 sp g1 g2 g3 md9 ch9)] sz (some (.int 1)) (fun A t => ∃ (q9 : Nat), zPD (dC, dI) classes A [(oc10 sl (mc9 + 1) (.ref q9) (nI 1)), (oc11 sp g1 g2 g3 md9 ch9), (oq q9 cO 10 (va_up (fun _ => none) 0 (some sp)))] t.heap) 1 10 := by
  refine zInL (own := "java/util/ArrayList") (loc := [(0, .ref sl), (1, .ref sp)]) rfl rfl rfl rfl (fun p e s m below meth c hx hb hr hts hown hlocks hml hnm9 A hA hS hP hD hK hXL hXN hK3 Q9 hQ9 ls hl => ?_)
  refine lv_aload_n hx hb dJx4a65c_add_9ea2d_0 rfl (lv_at hl 0 rfl) ?_
  refine lv_dup hx hb dJx4a65c_add_9ea2d_1 rfl ?_
  refine va_get (D := (dC, dI)) (ci := 10) (v := .int mc9) (C := RJx4a65c) (T := TJx4a65c) (N := 3) hx hb hts inJx4a65c hown hK hP 0 rfl rfl 0 (Nat.le_of_ble_eq_true rfl) (hts _ mw_299) (fun x9 h9 => u_same (hts _ mw_same_modCount) x9 h9) rfl dJx4a65c_add_9ea2d_2 ?_
  refine lv_iconst (v := 1) hx hb dJx4a65c_add_9ea2d_5 rfl ?_
  refine lv_iadd hx hb dJx4a65c_add_9ea2d_6 ?_
  refine va_put (D := (dC, dI)) (ci := 10) (v := .int (mc9 + 1)) (ty := .int) (C := RJx4a65c) (T := TJx4a65c) (N := 3) hx hb hts inJx4a65c tyJx4a65c tyJx4a65c_ok nmJx4a65c hown hK hP hD hS 0 rfl rfl 0 (by decide) (hts _ mw_299) (fun x9 h9 => u_same (hts _ mw_same_modCount) x9 h9) rfl (by decide +kernel) rfl rfl (Nat.le_of_ble_eq_true rfl) dJx4a65c_add_9ea2d_7 (fun H locs hP hD hS => ?_)
  obtain ⟨hP, hD⟩ := zre (W2 := [(oc10 sl (mc9 + 1) (.ref e0) 0), _]) hP hD rfl
  refine lv_aload_n hx hb dJx4a65c_add_9ea2d_10 rfl (lv_at hl 0 rfl) ?_
  refine lv_aload_n hx hb dJx4a65c_add_9ea2d_11 rfl (lv_at hl 1 rfl) ?_
  refine lv_aload_n hx hb dJx4a65c_add_9ea2d_12 rfl (lv_at hl 0 rfl) ?_
  refine va_get (D := (dC, dI)) (ci := 10) (v := .ref e0) (C := RJx4a65c) (T := TJx4a65c) (N := 3) hx hb hts inJx4a65c hown hK hP 0 rfl rfl 1 (Nat.le_of_ble_eq_true rfl) (hts _ mw_296) (fun _ h9 => h9) rfl dJx4a65c_add_9ea2d_13 ?_
  refine lv_aload_n hx hb dJx4a65c_add_9ea2d_16 rfl (lv_at hl 0 rfl) ?_
  refine va_get (D := (dC, dI)) (ci := 10) (v := .int 0) (C := RJx4a65c) (T := TJx4a65c) (N := 3) hx hb hts inJx4a65c hown hK hP 0 rfl rfl 2 (Nat.le_of_ble_eq_true rfl) (hts _ mw_297) (fun _ h9 => h9) rfl dJx4a65c_add_9ea2d_17 ?_
  obtain ⟨hPc, hDc, hFc⟩ := zo_sub (wc := [_, _]) hP hD hS hA [0, 1] rfl rfl
  refine zcall (st1 := []) (va_runV (As := [.ref sp, .ref e0, .int 0]) (rest := []) ⟨hx, hb, hml, hown, hts⟩ (k_AL_add3_0 l dC dI cI cZ cF H.size cO e0 mi sl (mc9 + 1) sp g1 g2 g3 md9 ch9 ) (csV_84 hts rfl rfl ⟨Nat.le_of_ble_eq_true rfl, Nat.le_of_ble_eq_true rfl⟩) (zPVL (q0 := 0) (ci := 10) hPc hDc hK hXL hS hFc rfl rfl) rfl rfl hl.1 rfl (lv_room (Nat.le_of_ble_eq_true rfl)) dJx4a65c_add_9ea2d_20 ⟨show (0 + 1) ≤ 1 by omega, show (0 + 10) ≤ 10 by omega⟩) hS hFc hFc rfl (fun t H locs ht hB hk1 hS => ?_)
  obtain ⟨q9, hP1, hD1⟩ := hB
  rw [ht] at hP1
  obtain ⟨hP, hD⟩ := zn (W2 := [(oc10 sl (mc9 + 1) (.ref q9) (nI 1)), (oc11 sp g1 g2 g3 md9 ch9), (oq q9 cO 10 (va_up (fun _ => none) 0 (some sp)))]) hP hD hk1 hFc hP1 hD1 [0, 1] [] [false, false, false] [0, 1, 2] (by decide +kernel) rfl rfl rfl rfl rfl
  clear hk1 hPc hDc hFc hP1 hD1 ht
  refine lv_iconst (v := 1) hx hb dJx4a65c_add_9ea2d_23 rfl ?_
  obtain ⟨hP9, hD9⟩ := zu_sub (wc := [_, _, _]) hP hD [true, true, true] rfl rfl
  refine W.widen (k := 1) (n := 10) (by omega) (by omega) ?_
  rw [hQ9]
  exact W.zret (ty := .boolean) (v := 1) hx hb hr (rfl) (fun t ht hW => ⟨⟨rfl, q9, by rw [ht]; exact hP9, hD9⟩, hS.F ht⟩) hS.2.2 dJx4a65c_add_9ea2d_24
set_option maxHeartbeats 4000000 in
set_option maxRecDepth 100000 in
theorem k_AL_add_r (l : Launch) (dC : Nat → ClassId) (dI : Nat → Nat → Nat) (cI cZ cF : ClassId) (sz : Nat) (cO : ClassId) (e0 : Nat) (mi : Nat) (sl : Nat) (ea : Nat) (n9 : Nat) (mc9 : Int32) (cp9 : Nat) (SA : Nat → Option Nat) (sp : Nat) (g1 : Int32) (g2 : Int32) (g3 : Int32) (md9 : Value) (ch9 : Value) (hnc : n9 < cp9) (hcp : cp9 < 2147483648) : zML l yJx4a65c_add_9ea2d cJx4a65c_add_9ea2d 2 (some .boolean) ({ frames := 1, cells := 0, slots := 0, locals := 23 } : Room) [.ref sl, .ref sp] (dC, dI) (zTyO cI cZ cF cO) e0 mi [(oc10 sl mc9 (.ref ea) (nI n9)), (oc11 sp g1 g2 g3 md9 ch9), (oq ea cO cp9 SA)] sz (some (.int 1)) (fun A t => zPD (dC, dI) classes A [(oc10 sl (mc9 + 1) (.ref ea) (nI (n9 + 1))), (oc11 sp g1 g2 g3 md9 ch9), (oq ea cO cp9 (va_up SA n9 (some sp)))] t.heap) 0 0 := by
  refine zInL (own := "java/util/ArrayList") (loc := [(0, .ref sl), (1, .ref sp)]) rfl rfl rfl rfl (fun p e s m below meth c hx hb hr hts hown hlocks hml hnm9 A hA hS hP hD hK hXL hXN hK3 Q9 hQ9 ls hl => ?_)
  refine lv_aload_n hx hb dJx4a65c_add_9ea2d_0 rfl (lv_at hl 0 rfl) ?_
  refine lv_dup hx hb dJx4a65c_add_9ea2d_1 rfl ?_
  refine va_get (D := (dC, dI)) (ci := 10) (v := .int mc9) (C := RJx4a65c) (T := TJx4a65c) (N := 3) hx hb hts inJx4a65c hown hK hP 0 rfl rfl 0 (Nat.le_of_ble_eq_true rfl) (hts _ mw_299) (fun x9 h9 => u_same (hts _ mw_same_modCount) x9 h9) rfl dJx4a65c_add_9ea2d_2 ?_
  refine lv_iconst (v := 1) hx hb dJx4a65c_add_9ea2d_5 rfl ?_
  refine lv_iadd hx hb dJx4a65c_add_9ea2d_6 ?_
  refine va_put (D := (dC, dI)) (ci := 10) (v := .int (mc9 + 1)) (ty := .int) (C := RJx4a65c) (T := TJx4a65c) (N := 3) hx hb hts inJx4a65c tyJx4a65c tyJx4a65c_ok nmJx4a65c hown hK hP hD hS 0 rfl rfl 0 (by decide) (hts _ mw_299) (fun x9 h9 => u_same (hts _ mw_same_modCount) x9 h9) rfl (by decide +kernel) rfl rfl (Nat.le_of_ble_eq_true rfl) dJx4a65c_add_9ea2d_7 (fun H locs hP hD hS => ?_)
  obtain ⟨hP, hD⟩ := zre (W2 := [(oc10 sl (mc9 + 1) (.ref ea) (nI n9)), _, _]) hP hD rfl
  refine lv_aload_n hx hb dJx4a65c_add_9ea2d_10 rfl (lv_at hl 0 rfl) ?_
  refine lv_aload_n hx hb dJx4a65c_add_9ea2d_11 rfl (lv_at hl 1 rfl) ?_
  refine lv_aload_n hx hb dJx4a65c_add_9ea2d_12 rfl (lv_at hl 0 rfl) ?_
  refine va_get (D := (dC, dI)) (ci := 10) (v := .ref ea) (C := RJx4a65c) (T := TJx4a65c) (N := 3) hx hb hts inJx4a65c hown hK hP 0 rfl rfl 1 (Nat.le_of_ble_eq_true rfl) (hts _ mw_296) (fun _ h9 => h9) rfl dJx4a65c_add_9ea2d_13 ?_
  refine lv_aload_n hx hb dJx4a65c_add_9ea2d_16 rfl (lv_at hl 0 rfl) ?_
  refine va_get (D := (dC, dI)) (ci := 10) (v := .int (nI n9)) (C := RJx4a65c) (T := TJx4a65c) (N := 3) hx hb hts inJx4a65c hown hK hP 0 rfl rfl 2 (Nat.le_of_ble_eq_true rfl) (hts _ mw_297) (fun _ h9 => h9) rfl dJx4a65c_add_9ea2d_17 ?_
  obtain ⟨hPc, hDc, hFc⟩ := zo_sub (wc := [_, _, _]) hP hD hS hA [0, 1, 2] rfl rfl
  refine zcall (st1 := []) (va_runV (As := [.ref sp, .ref ea, .int (nI n9)]) (rest := []) ⟨hx, hb, hml, hown, hts⟩ (k_AL_add3_r l dC dI cI cZ cF H.size cO e0 mi sl ea n9 (mc9 + 1) cp9 SA sp g1 g2 g3 md9 ch9 (by first | with_reducible assumption | omega) (by first | with_reducible assumption | omega)) (csV_84 hts rfl rfl ⟨Nat.le_of_ble_eq_true rfl, Nat.le_of_ble_eq_true rfl⟩) (zPVL (q0 := 0) (ci := 10) hPc hDc hK hXL hS hFc rfl rfl) rfl rfl hl.1 rfl (lv_room (Nat.le_of_ble_eq_true rfl)) dJx4a65c_add_9ea2d_20 ⟨Nat.le_of_ble_eq_true rfl, Nat.le_of_ble_eq_true rfl⟩) hS hFc hFc rfl (fun t H locs ht hB hk1 hS => ?_)
  obtain ⟨hP1, hD1⟩ := hB
  rw [ht] at hP1
  obtain ⟨hP, hD⟩ := zn (W2 := [(oc10 sl (mc9 + 1) (.ref ea) (nI (n9 + 1))), _, (oq ea cO cp9 (va_up SA n9 (some sp)))]) hP hD hk1 hFc hP1 hD1 [0, 1, 2] [] [false, false, false] [0, 1, 2] (by decide +kernel) rfl rfl rfl rfl rfl
  clear hk1 hPc hDc hFc hP1 hD1 ht
  refine lv_iconst (v := 1) hx hb dJx4a65c_add_9ea2d_23 rfl ?_
  obtain ⟨hP9, hD9⟩ := zu_sub (wc := [_, _, _]) hP hD [true, true, true] rfl rfl
  rw [hQ9]
  exact W.zret (ty := .boolean) (v := 1) hx hb hr (rfl) (fun t ht hW => ⟨⟨rfl, by rw [ht]; exact hP9, hD9⟩, hS.F ht⟩) hS.2.2 dJx4a65c_add_9ea2d_24
set_option maxHeartbeats 4000000 in
set_option maxRecDepth 100000 in
theorem k_AL_add_g (l : Launch) (dC : Nat → ClassId) (dI : Nat → Nat → Nat) (cI cZ cF : ClassId) (sz : Nat) (cO : ClassId) (e0 : Nat) (mi : Nat) (sl : Nat) (ea : Nat) (n : Nat) (mc9 : Int32) (SA : Nat → Option Nat) (sp : Nat) (g1 : Int32) (g2 : Int32) (g3 : Int32) (md9 : Value) (ch9 : Value) (L : List Nat) (f : Nat → va_E) (hn10 : 10 ≤ n) (hn : n ≤ 100000) (hel : ∀ i, i < n → ∃ y vs, SA i = some y ∧ y ∈ L ∧ f y = .inr (11, vs)) : zML l yJx4a65c_add_9ea2d cJx4a65c_add_9ea2d 2 (some .boolean) ({ frames := 6, cells := 1, slots := n + n / 2, locals := 134 } : Room) [.ref sl, .ref sp] (dC, dI) (zTyO cI cZ cF cO) e0 mi ([(oc10 sl mc9 (.ref ea) (nI n)), (oc11 sp g1 g2 g3 md9 ch9), (oq ea cO n SA)] ++ va_pl L f) sz (some (.int 1)) (fun A t => ∃ (q9 : Nat), zPD (dC, dI) classes A ([(oc10 sl (mc9 + 1) (.ref q9) (nI (n + 1))), (oc11 sp g1 g2 g3 md9 ch9), (oq ea cO n SA), (oq q9 cO (n + n / 2) (va_up (va_cpy SA (fun _ => none) 0 0 n) n (some sp)))] ++ va_pl L f) t.heap) 1 (n + n / 2) := by
  refine zInL (own := "java/util/ArrayList") (loc := [(0, .ref sl), (1, .ref sp)]) rfl rfl rfl rfl (fun p e s m below meth c hx hb hr hts hown hlocks hml hnm9 A hA hS hP hD hK hXL hXN hK3 Q9 hQ9 ls hl => ?_)
  refine lv_aload_n hx hb dJx4a65c_add_9ea2d_0 rfl (lv_at hl 0 rfl) ?_
  refine lv_dup hx hb dJx4a65c_add_9ea2d_1 rfl ?_
  refine va_get (D := (dC, dI)) (ci := 10) (v := .int mc9) (C := RJx4a65c) (T := TJx4a65c) (N := 3) hx hb hts inJx4a65c hown hK hP 0 rfl rfl 0 (Nat.le_of_ble_eq_true rfl) (hts _ mw_299) (fun x9 h9 => u_same (hts _ mw_same_modCount) x9 h9) rfl dJx4a65c_add_9ea2d_2 ?_
  refine lv_iconst (v := 1) hx hb dJx4a65c_add_9ea2d_5 rfl ?_
  refine lv_iadd hx hb dJx4a65c_add_9ea2d_6 ?_
  refine va_put (D := (dC, dI)) (ci := 10) (v := .int (mc9 + 1)) (ty := .int) (C := RJx4a65c) (T := TJx4a65c) (N := 3) hx hb hts inJx4a65c tyJx4a65c tyJx4a65c_ok nmJx4a65c hown hK hP hD hS 0 rfl rfl 0 (by decide) (hts _ mw_299) (fun x9 h9 => u_same (hts _ mw_same_modCount) x9 h9) rfl (by decide +kernel) rfl rfl (Nat.le_of_ble_eq_true rfl) dJx4a65c_add_9ea2d_7 (fun H locs hP hD hS => ?_)
  obtain ⟨hP, hD⟩ := zre (W2 := ([(oc10 sl (mc9 + 1) (.ref ea) (nI n)), _, _] ++ va_pl L f)) hP hD rfl
  refine lv_aload_n hx hb dJx4a65c_add_9ea2d_10 rfl (lv_at hl 0 rfl) ?_
  refine lv_aload_n hx hb dJx4a65c_add_9ea2d_11 rfl (lv_at hl 1 rfl) ?_
  refine lv_aload_n hx hb dJx4a65c_add_9ea2d_12 rfl (lv_at hl 0 rfl) ?_
  refine va_get (D := (dC, dI)) (ci := 10) (v := .ref ea) (C := RJx4a65c) (T := TJx4a65c) (N := 3) hx hb hts inJx4a65c hown hK hP 0 rfl rfl 1 (Nat.le_of_ble_eq_true rfl) (hts _ mw_296) (fun _ h9 => h9) rfl dJx4a65c_add_9ea2d_13 ?_
  refine lv_aload_n hx hb dJx4a65c_add_9ea2d_16 rfl (lv_at hl 0 rfl) ?_
  refine va_get (D := (dC, dI)) (ci := 10) (v := .int (nI n)) (C := RJx4a65c) (T := TJx4a65c) (N := 3) hx hb hts inJx4a65c hown hK hP 0 rfl rfl 2 (Nat.le_of_ble_eq_true rfl) (hts _ mw_297) (fun _ h9 => h9) rfl dJx4a65c_add_9ea2d_17 ?_
  obtain ⟨hPc, hDc, hFc⟩ := zo_part (cx := [_, _, _]) hP hD hS hA [0, 1, 2] rfl rfl
  refine zcall (st1 := []) (va_runV (As := [.ref sp, .ref ea, .int (nI n)]) (rest := []) ⟨hx, hb, hml, hown, hts⟩ (k_AL_add3_g l dC dI cI cZ cF H.size cO e0 mi sl ea n (mc9 + 1) SA sp g1 g2 g3 md9 ch9 L f (by first | with_reducible assumption | omega) (by first | with_reducible assumption | omega) (by first | with_reducible assumption | assumption)) (csV_84 hts rfl rfl ⟨Nat.le_of_ble_eq_true rfl, Nat.le_of_ble_eq_true rfl⟩) (zPVL (q0 := 0) (ci := 10) hPc hDc hK hXL hS hFc rfl rfl) rfl rfl hl.1 rfl (lv_room (Nat.le_of_ble_eq_true rfl)) dJx4a65c_add_9ea2d_20 ⟨show (0 + 1) ≤ 1 by omega, show (0 + (n + n / 2)) ≤ n + n / 2 by omega⟩) hS hFc hFc rfl (fun t H locs ht hB hk1 hS => ?_)
  obtain ⟨q9, hP1, hD1⟩ := hB
  rw [ht] at hP1
  obtain ⟨hP, hD⟩ := znP (W2 := [(oc10 sl (mc9 + 1) (.ref q9) (nI (n + 1))), (oc11 sp g1 g2 g3 md9 ch9), (oq ea cO n SA), (oq q9 cO (n + n / 2) (va_up (va_cpy SA (fun _ => none) 0 0 n) n (some sp)))]) hP hD hk1 hFc hP1 hD1 [0, 1, 2] [] [false, false, false, false] [0, 1, 2, 3] (by decide +kernel) rfl rfl rfl rfl rfl
  clear hk1 hPc hDc hFc hP1 hD1 ht
  refine lv_iconst (v := 1) hx hb dJx4a65c_add_9ea2d_23 rfl ?_
  obtain ⟨hP9, hD9⟩ := zu_part (cx := [_, _, _, _]) hP hD [true, true, true, true] rfl rfl
  refine W.widen (k := 1) (n := n + n / 2) (by omega) (by omega) ?_
  rw [hQ9]
  exact W.zret (ty := .boolean) (v := 1) hx hb hr (rfl) (fun t ht hW => ⟨⟨rfl, q9, by rw [ht]; exact hP9, hD9⟩, hS.F ht⟩) hS.2.2 dJx4a65c_add_9ea2d_24
end
section
/-! cells of the pool and whose they are; what is kept when some are written -/
def ce (L : List Nat) (f : Nat → va_E) (own : Nat → Nat) (g a : Nat) (e : va_E) : Prop := a ∈ L ∧ f a = e ∧ own a = g
/-- cells of the kinds P are kept -/
def kpT (P : Nat → Prop) (L : List Nat) (f : Nat → va_E) (own : Nat → Nat) (L1 : List Nat) (f1 : Nat → va_E) (own1 : Nat → Nat) : Prop := ∀ g a e, P g → ce L f own g a e → ce L1 f1 own1 g a e
theorem kpT_rf {P : Nat → Prop} {L : List Nat} {f : Nat → va_E} {own : Nat → Nat} : kpT P L f own L f own := fun _ _ _ _ h => h
theorem kpT_tr {P : Nat → Prop} {L L1 L2 : List Nat} {f f1 f2 : Nat → va_E} {own own1 own2 : Nat → Nat} (h : kpT P L f own L1 f1 own1) (h2 : kpT P L1 f1 own1 L2 f2 own2) : kpT P L f own L2 f2 own2 := fun g a e hp hc => h2 g a e hp (h g a e hp hc)
theorem kpT_wk {P P1 : Nat → Prop} {L L1 : List Nat} {f f1 : Nat → va_E} {own own1 : Nat → Nat} (h : kpT P L f own L1 f1 own1) (hp : ∀ g, P1 g → P g) : kpT P1 L f own L1 f1 own1 := fun g a e h1 hc => h g a e (hp g h1) hc
/-- each cell of a list: new, of another kind, or as it was -/
def alK (L : List Nat) (f : Nat → va_E) (own : Nat → Nat) (P : Nat → Prop) : va_W → Prop
  | [] => True
  | c :: cs => (c.1 ∈ L → P (own c.1) → f c.1 = c.2) ∧ alK L f own P cs
theorem alK_m {L : List Nat} {f : Nat → va_E} {own : Nat → Nat} {P : Nat → Prop} : ∀ {cs : va_W}, alK L f own P cs → ∀ c ∈ cs, c.1 ∈ L → P (own c.1) → f c.1 = c.2
  | c :: cs, h, d, hd => by
    rcases List.mem_cons.mp hd with e | e
    · rw [e]; exact h.1
    · exact alK_m h.2 d e
theorem kp_in {P : Nat → Prop} {L : List Nat} {f : Nat → va_E} {own own1 : Nat → Nat} {cs cs1 : va_W} (hn : cs1.Pairwise (fun p q => p.1 ≠ q.1)) (h1 : ∀ a ∈ cs.map Prod.fst, a ∈ cs1.map Prod.fst) (h2 : alK L f own P cs1) (ho : ∀ a ∈ L, own1 a = own a) : kpT P L f own (cs1.map Prod.fst ++ outPl L cs) (plU f cs1) own1 := by
  intro g a e hp hc
  by_cases q : a ∈ cs1.map Prod.fst
  · obtain ⟨c, hc1, hc2⟩ := List.mem_map.mp q
    refine ⟨List.mem_append.mpr (Or.inl q), ?_, by rw [ho a hc.1]; exact hc.2.2⟩
    have h3 := plU_at (f := f) hn c hc1
    rw [hc2] at h3
    have h4 := alK_m h2 c hc1 (by rw [hc2]; exact hc.1) (by rw [hc2, hc.2.2]; exact hp)
    rw [h3, ← h4, hc2]; exact hc.2.1
  · exact ⟨List.mem_append.mpr (Or.inr (outPl_mem.mpr ⟨hc.1, fun h => q (h1 a h)⟩)), (plU_o q).trans hc.2.1, by rw [ho a hc.1]; exact hc.2.2⟩
theorem ce_in {L : List Nat} {f : Nat → va_E} {own1 : Nat → Nat} {cs cs1 : va_W} {g a : Nat} {e : va_E} (hn : cs1.Pairwise (fun p q => p.1 ≠ q.1)) (k : Nat) (hk : cs1[k]? = some (a, e)) (ho : own1 a = g) : ce (cs1.map Prod.fst ++ outPl L cs) (plU f cs1) own1 g a e := by
  have hm := List.mem_of_getElem? hk
  exact ⟨List.mem_append.mpr (Or.inl (List.mem_map.mpr ⟨_, hm, rfl⟩)), plU_at hn _ hm, ho⟩
/-- a new cell's owner -/
def ow (own : Nat → Nat) (a g : Nat) : Nat → Nat := fun b => if b = a then g else own b
theorem ow_at {own : Nat → Nat} {a g : Nat} : ow own a g a = g := if_pos rfl
theorem ow_o {own : Nat → Nat} {a g b : Nat} (h : b ≠ a) : ow own a g b = own b := if_neg h
theorem ce_ne {L : List Nat} {f : Nat → va_E} {own : Nat → Nat} {g a g2 a2 : Nat} {e e2 : va_E} (h : ce L f own g a e) (h2 : ce L f own g2 a2 e2) (hg : g ≠ g2) : a ≠ a2 := fun q => hg (by rw [← h.2.2, ← h2.2.2, q])
theorem ce_pl {L : List Nat} {f : Nat → va_E} {own : Nat → Nat} {g a : Nat} {e : va_E} (h : ce L f own g a e) : a ∈ L ∧ f a = e := ⟨h.1, h.2.1⟩
/-- a cell that is left in the pool -/
theorem ce_out {L : List Nat} {f : Nat → va_E} {own : Nat → Nat} {g a : Nat} {e : va_E} {cs : va_W} (h : ce L f own g a e) (hn : ∀ c ∈ cs, own c.1 ≠ g) : ce (outPl L cs) f own g a e :=
  ⟨outPl_mem.mpr ⟨h.1, fun q => by obtain ⟨c, h1, h2⟩ := List.mem_map.mp q; exact hn c h1 (by rw [h2]; exact h.2.2)⟩, h.2⟩
/-- a row -/
def rwG (cI : ClassId) (L : List Nat) (f : Nat → va_E) (own : Nat → Nat) (g r rx ry n cap : Nat) (X Y : Nat → Int32) (rg : Int32) : Prop :=
  ce L f own g r (.inr (6, [.ref rx, .ref ry, .int (nI n), .int rg])) ∧ ce L f own g rx (.inl (cI, cap, .inl X)) ∧ ce L f own g ry (.inl (cI, cap, .inl Y)) ∧ rx ≠ ry
theorem rwG_kp {P : Nat → Prop} {cI : ClassId} {L L1 : List Nat} {f f1 : Nat → va_E} {own own1 : Nat → Nat} {g r rx ry n cap : Nat} {X Y : Nat → Int32} {rg : Int32} (h : kpT P L f own L1 f1 own1) (hp : P g) (hr : rwG cI L f own g r rx ry n cap X Y rg) : rwG cI L1 f1 own1 g r rx ry n cap X Y rg :=
  ⟨h _ _ _ hp hr.1, h _ _ _ hp hr.2.1, h _ _ _ hp hr.2.2.1, hr.2.2.2⟩
/-- a look, and the row that it holds: a feature's corners are n, at C and D -/
def lkR (cI : ClassId) (L : List Nat) (f : Nat → va_E) (own : Nat → Nat) (gr : Nat) (rv : Value) (kd st tn : Int32) (we n : Nat) (C D : Nat → Int32) : Prop :=
  (¬ tn.toInt = 0 → rv = .null) ∧ (tn.toInt = 0 → ∃ (r rx ry cap : Nat) (X Y : Nat → Int32), rv = .ref r ∧ rwG cI L f own gr r rx ry n cap X Y (rgK kd.toInt) ∧ n ≤ cap ∧ cap ≤ 40 ∧ (st.toInt = 0 → cap = (if kd.toInt = 0 then 1 else 40) ∧ we = 0) ∧ (∀ k, k < n → X k = C k ∧ Y k = D k) ∧ ((1 ≤ kd.toInt ∧ kd.toInt ≤ 5) → we + n ≤ 40))
def lkG (cI : ClassId) (L : List Nat) (f : Nat → va_E) (own : Nat → Nat) (gl gr a cl : Nat) (kd st gb it tn : Int32) (n : Nat) (C D : Nat → Int32) : Prop :=
  ∃ (we : Nat) (rv : Value), ce L f own gl a (.inr (4, [.int kd, .int st, rv, .int gb, .int it, .int (nI we)])) ∧ we ≤ 40 ∧ ((1 ≤ kd.toInt ∧ kd.toInt ≤ 5) → cl = 40) ∧ lkR cI L f own gr rv kd st tn we n C D
theorem lkR_kp {P : Nat → Prop} {cI : ClassId} {L L1 : List Nat} {f f1 : Nat → va_E} {own own1 : Nat → Nat} {gr : Nat} {rv : Value} {kd st tn : Int32} {we n : Nat} {C D : Nat → Int32} (h : kpT P L f own L1 f1 own1) (hp : P gr) (hr : lkR cI L f own gr rv kd st tn we n C D) : lkR cI L1 f1 own1 gr rv kd st tn we n C D := by
  refine ⟨hr.1, fun h0 => ?_⟩
  obtain ⟨r, rx, ry, cap, X, Y, h1, h2, h3⟩ := hr.2 h0
  exact ⟨r, rx, ry, cap, X, Y, h1, rwG_kp h hp h2, h3⟩
theorem lkG_kp {P : Nat → Prop} {cI : ClassId} {L L1 : List Nat} {f f1 : Nat → va_E} {own own1 : Nat → Nat} {gl gr a cl : Nat} {kd st gb it tn : Int32} {n : Nat} {C D : Nat → Int32} (h : kpT P L f own L1 f1 own1) (hp : P gl) (hq : P gr) (hl : lkG cI L f own gl gr a cl kd st gb it tn n C D) : lkG cI L1 f1 own1 gl gr a cl kd st gb it tn n C D := by
  obtain ⟨we, rv, h1, h2, h3, h4⟩ := hl
  exact ⟨we, rv, h _ _ _ hp h1, h2, h3, lkR_kp h hq h4⟩
theorem lkR_cg {cI : ClassId} {L : List Nat} {f : Nat → va_E} {own : Nat → Nat} {gr : Nat} {rv : Value} {kd st tn : Int32} {we n : Nat} {C D C1 D1 : Nat → Int32} (hc : ∀ k, k < 40 → C1 k = C k ∧ D1 k = D k) (h : lkR cI L f own gr rv kd st tn we n C D) : lkR cI L f own gr rv kd st tn we n C1 D1 := by
  refine ⟨h.1, fun h0 => ?_⟩
  obtain ⟨r, rx, ry, cap, X, Y, h1, h2, h3, h4, h5, h6, h7⟩ := h.2 h0
  exact ⟨r, rx, ry, cap, X, Y, h1, h2, h3, h4, h5, fun k hk => by rw [(hc k (by omega)).1, (hc k (by omega)).2]; exact h6 k hk, h7⟩
theorem lkG_cg {cI : ClassId} {L : List Nat} {f : Nat → va_E} {own : Nat → Nat} {gl gr a cl : Nat} {kd st gb it tn : Int32} {n : Nat} {C D C1 D1 : Nat → Int32} (hc : ∀ k, k < 40 → C1 k = C k ∧ D1 k = D k) (h : lkG cI L f own gl gr a cl kd st gb it tn n C D) : lkG cI L f own gl gr a cl kd st gb it tn n C1 D1 := by
  obtain ⟨we, rv, h1, h2, h3, h4⟩ := h
  exact ⟨we, rv, h1, h2, h3, lkR_cg hc h4⟩
/-- a torn one's corners do not matter -/
theorem lkG_tn {cI : ClassId} {L : List Nat} {f : Nat → va_E} {own : Nat → Nat} {gl gr a cl : Nat} {kd st gb it tn : Int32} {n n1 : Nat} {C D C1 D1 : Nat → Int32} (h0 : ¬ tn.toInt = 0) (h : lkG cI L f own gl gr a cl kd st gb it tn n C D) : lkG cI L f own gl gr a cl kd st gb it tn n1 C1 D1 := by
  obtain ⟨we, rv, h1, h2, h3, h4⟩ := h
  exact ⟨we, rv, h1, h2, h3, h4.1, fun g => absurd g h0⟩
/-- a feature's own cells -/
def feG (cI : ClassId) (L : List Nat) (f : Nat → va_E) (own : Nat → Nat) (q fe nw cl : Nat) (fm : Value) (rk wd tw pa pb : Int32) : Prop :=
  ∃ (lo lx ly ln : Nat) (LX LY : Nat → Int32), ce L f own (8 * q) fe (.inr (1, [.int rk, .int wd, .int tw, .int pa, .int pb, .ref lo, .ref nw, fm])) ∧ rwG cI L f own (8 * q + 1) lo lx ly ln cl LX LY 0 ∧ ln ≤ cl ∧ 1 ≤ cl ∧ cl ≤ 40
theorem feG_kp {P : Nat → Prop} {cI : ClassId} {L L1 : List Nat} {f f1 : Nat → va_E} {own own1 : Nat → Nat} {q fe nw cl : Nat} {fm : Value} {rk wd tw pa pb : Int32} (h : kpT P L f own L1 f1 own1) (hp : P (8 * q)) (hq : P (8 * q + 1)) (hf : feG cI L f own q fe nw cl fm rk wd tw pa pb) : feG cI L1 f1 own1 q fe nw cl fm rk wd tw pa pb := by
  obtain ⟨lo, lx, ly, ln, LX, LY, h1, h2, h3⟩ := hf
  exact ⟨lo, lx, ly, ln, LX, LY, h _ _ _ hp h1, rwG_kp h hq h2, h3⟩
/-- the changes of a step: of the features qs, from lb to la -/
def chn (L : List Nat) (f : Nat → va_E) (own fe lb la : Nat → Nat) : Value → List Nat → Prop
  | v, [] => v = .null
  | v, q :: qs => ∃ (c : Nat) (nx : Value), v = .ref c ∧ ce L f own 8003 c (.inr (12, [.ref (fe q), .ref (lb q), .ref (la q), nx])) ∧ chn L f own fe lb la nx qs
theorem chn_kp {P : Nat → Prop} {L L1 : List Nat} {f f1 : Nat → va_E} {own own1 fe lb la : Nat → Nat} (h : kpT P L f own L1 f1 own1) (hp : P 8003) : ∀ {qs : List Nat} {v : Value}, chn L f own fe lb la v qs → chn L1 f1 own1 fe lb la v qs
  | [], _, hc => hc
  | q :: qs, v, hc => by
    obtain ⟨c, nx, h1, h2, h3⟩ := hc
    exact ⟨c, nx, h1, h _ _ _ hp h2, chn_kp h hp h3⟩
theorem chn_cg {L : List Nat} {f : Nat → va_E} {own fe lb la fe1 lb1 la1 : Nat → Nat} : ∀ {qs : List Nat} {v : Value}, (∀ q ∈ qs, fe1 q = fe q ∧ lb1 q = lb q ∧ la1 q = la q) → chn L f own fe lb la v qs → chn L f own fe1 lb1 la1 v qs
  | [], _, _, hc => hc
  | q :: qs, v, hq, hc => by
    obtain ⟨c, nx, h1, h2, h3⟩ := hc
    have e := hq q (List.mem_cons_self ..)
    exact ⟨c, nx, h1, by rw [e.1, e.2.1, e.2.2]; exact h2, chn_cg (fun p hp => hq p (List.mem_cons_of_mem _ hp)) h3⟩

/-- what is known of a pool into which cells were put: as they are now (old), and new ones -/
def pinD (L : List Nat) (f : Nat → va_E) (X old new cs1 : va_W) (L1 : List Nat) (f1 : Nat → va_E) : Prop :=
  (∀ c ∈ new, c.1 ∉ L) ∧ (∀ (own own1 : Nat → Nat) (P : Nat → Prop), (∀ a ∈ L, own1 a = own a) → alK L f own P old → kpT P L f own L1 f1 own1) ∧
      (∀ (own1 : Nat → Nat) (k : Nat) (a : Nat) (v : va_E) (g : Nat), cs1[k]? = some (a, v) → own1 a = g → ce L1 f1 own1 g a v) ∧ (∀ c ∈ cs1, ∀ d ∈ X, d.1 ≠ c.1) ∧ cs1.Pairwise (fun p q => p.1 ≠ q.1)
/-- cells that were taken out (cs), as they are now (old), and new ones (new), go back into the pool -/
theorem pl_pin {D : va_G} {cl : List vw_C} {A : Nat → Prop} {X cs old new cs1 : va_W} {L : List Nat} {f : Nat → va_E} {H : Heap} (e : cs1 = old ++ new) (hm : old.map Prod.fst = cs.map Prod.fst) (hP : va_P D cl ((X ++ cs1) ++ va_pl (outPl L cs) f) H) (hD : va_D A ((X ++ cs1) ++ va_pl (outPl L cs) f)) :
    ∃ (L1 : List Nat) (f1 : Nat → va_E), va_P D cl (X ++ va_pl L1 f1) H ∧ va_D A (X ++ va_pl L1 f1) ∧ pinD L f X old new cs1 L1 f1 := by
  have hw := List.pairwise_append.mp (vaD_mem.mp hD).1
  have hw2 := List.pairwise_append.mp hw.1
  have hw3 := hw2.2.1
  have hsub : ∀ a ∈ cs.map Prod.fst, a ∈ cs1.map Prod.fst := fun a ha => by rw [e, List.map_append, hm]; exact List.mem_append.mpr (Or.inl ha)
  have hfr : ∀ c ∈ new, c.1 ∉ L := fun c hc hL => by
    have hc1 : c ∈ cs1 := by rw [e]; exact List.mem_append.mpr (Or.inr hc)
    have hno : c.1 ∉ cs.map Prod.fst := fun h => by
      rw [← hm] at h
      obtain ⟨d, hd, ed⟩ := List.mem_map.mp h
      rw [e] at hw3
      exact (List.pairwise_append.mp hw3).2.2 d hd c hc ed
    exact hw.2.2 c (List.mem_append.mpr (Or.inr hc1)) (c.1, f c.1) (pl_mem.mpr ⟨outPl_mem.mpr ⟨hL, hno⟩, rfl⟩) rfl
  obtain ⟨p1, p2⟩ := pl_in hP hD
  refine ⟨_, _, p1, p2, hfr, fun own own1 P ho ha => kp_in hw3 hsub ?_ ho, fun own1 k a v g hk ho => ce_in hw3 k hk ho, fun c hc d hd => hw2.2.2 d hd c hc, hw3⟩
  rw [e]
  have go : ∀ (o n : va_W), alK L f own P o → (∀ c ∈ n, c.1 ∉ L) → alK L f own P (o ++ n) := by
    intro o
    induction o with
    | nil =>
      intro n _ hn
      induction n with
      | nil => trivial
      | cons c n ih => exact ⟨fun h => absurd h (hn c (List.mem_cons_self ..)), ih (fun d hd => hn d (List.mem_cons_of_mem _ hd))⟩
    | cons c o ih => intro n h hn; exact ⟨h.1, ih n h.2 hn⟩
  exact go old new ha hfr
theorem ow_L {L : List Nat} {own own1 : Nat → Nat} {n g : Nat} (h : ∀ a ∈ L, own1 a = own a) (hn : n ∉ L) : ∀ a ∈ L, ow own1 n g a = own a := fun a ha => by rw [ow_o (fun e => hn (by rw [← e]; exact ha))]; exact h a ha
theorem pwN {cs : va_W} (h : cs.Pairwise (fun p q => p.1 ≠ q.1)) {i j a b : Nat} {v w : va_E} (hi : cs[i]? = some (a, v)) (hj : cs[j]? = some (b, w)) (hij : i ≠ j) : a ≠ b := fun e => by
  obtain ⟨h1, h2⟩ := List.getElem?_eq_some_iff.mp hi
  obtain ⟨h3, h4⟩ := List.getElem?_eq_some_iff.mp hj
  have hw := List.pairwise_iff_getElem.mp h
  rcases Nat.lt_or_gt_of_ne hij with g | g
  · exact hw i j h1 h3 g (by rw [h2, h4]; exact e)
  · exact hw j i h3 h1 g (by rw [h2, h4]; exact e.symm)
end
section
theorem pl_pn {D : va_G} {cl : List vw_C} {A : Nat → Prop} {X W1 cs old new cs1 : va_W} {L T : List Nat} {f : Nat → va_E} {H : Heap} (hT : outPl L cs = T) (hP : va_P D cl (W1 ++ va_pl T f) H) (hD : va_D A (W1 ++ va_pl T f)) (hW : W1 = X ++ cs1) (e : cs1 = old ++ new) (hm : old.map Prod.fst = cs.map Prod.fst) :
    ∃ (L1 : List Nat) (f1 : Nat → va_E), va_P D cl (X ++ va_pl L1 f1) H ∧ va_D A (X ++ va_pl L1 f1) ∧ pinD L f X old new cs1 L1 f1 := by
  subst hT
  subst hW
  exact pl_pin e hm hP hD
end
section
/-! how the class's cells stand for a state and its history -/
def glM (md q : Nat) : Nat := if md = 0 then 8 * q + 2 else 8 * q + 4
def grM (md q : Nat) : Nat := if md = 1 then 8 * q + 5 else 8 * q + 3
def FeA (cI : ClassId) (L : List Nat) (f : Nat → va_E) (own : Nat → Nat) (fN : Nat) (fe nw cl : Nat → Nat) (fm : Nat → Value) (rk wd tw pa pb : Nat → Int32) : Prop :=
  ∀ q, q < fN → feG cI L f own q (fe q) (nw q) (cl q) (fm q) (rk q) (wd q) (tw q) (pa q) (pb q)
def NwA (cI : ClassId) (L : List Nat) (f : Nat → va_E) (own : Nat → Nat) (ft : Nat) (nw cl md : Nat → Nat) (kd st gb it tn mn cx cy : Nat → Int32) : Prop :=
  ∀ q, q < ft → lkG cI L f own (glM (md q) q) (grM (md q) q) (nw q) (cl q) (kd q) (st q) (gb q) (it q) (tn q) (nN (mn q)) (cF40 cx q) (cF40 cy q)
def HiA (cI : ClassId) (L : List Nat) (f : Nat → va_E) (own : Nat → Nat) (bs T dn : Nat) (FT : Nat → Nat) (la : Nat → Nat → Nat) (cl : Nat → Nat) (V : Nat → Nat → Nat → Int32) (VX VY : Nat → Nat → Int32) (tn : Nat → Int32) : Prop :=
  ∀ t, bs ≤ t → t ≤ T → ∀ q, q < FT t → (¬ (V t 1 q).toInt = 0 → lkG cI L f own (8 * q + 2) (8 * q + 3) (la t q) (cl q) (V t 0 q) (V t 1 q) (V t 2 q) (V t 3 q) (tn q) (nN (V t 4 q)) (cF40 (VX t) q) (cF40 (VY t) q)) ∧
    (((V t 1 q).toInt = 0 ∨ (q < FT dn ∧ (V dn 1 q).toInt = 0)) → la t q = la dn q ∧ q < FT bs ∧ V t 0 q = V dn 0 q ∧ V t 1 q = V dn 1 q ∧ V t 2 q = V dn 2 q ∧ V t 3 q = V dn 3 q)
def StA (L : List Nat) (f : Nat → va_E) (own : Nat → Nat) (bs T fN : Nat) (FT fe : Nat → Nat) (la : Nat → Nat → Nat) (sp : Nat → Nat) (SA : Nat → Option Nat) (wh of9 we : Nat → Int32) : Prop :=
  ∀ t, 1 ≤ t → t ≤ T → SA (t - 1) = some (sp t) ∧ ∃ (mv ch : Value), ce L f own 8001 (sp t) (.inr (11, [.int (wh t), .int (of9 t), .int (we t), mv, ch])) ∧
    (bs < t → (∃ qs : List Nat, chn L f own fe (la (t - 1)) (la t) ch qs ∧ (∀ q ∈ qs, q < FT (t - 1)) ∧ ∀ q, q < fN → q ∉ qs → la (t - 1) q = la t q) ∧ ((FT t = FT (t - 1) ∧ mv = .null) ∨ (FT t = FT (t - 1) + 1 ∧ mv = .ref (fe (FT (t - 1))))))
def LsA (cO : ClassId) (L : List Nat) (f : Nat → va_E) (own : Nat → Nat) (e0 ea n9 : Nat) (SA : Nat → Option Nat) : Prop :=
  (ea = e0 ∧ n9 = 0) ∨ ∃ cap : Nat, ce L f own 8002 ea (.inl (cO, cap, .inr (.inr (.inr (.inr SA))))) ∧ n9 ≤ cap ∧ 10 ≤ cap ∧ cap ≤ 1000 ∧ ∀ i, i < n9 → ∃ (y : Nat) (vs : List Value), SA i = some y ∧ ce L f own 8001 y (.inr (11, vs))
def NmA (bs dn T ft fN : Nat) (FT : Nat → Nat) : Prop := bs ≤ dn ∧ dn ≤ T ∧ T ≤ 512 ∧ (∀ t, bs ≤ t → t ≤ T → FT t ≤ fN) ∧ ft ≤ fN ∧ fN ≤ 200
/-- the state at position dn is the state now -/
def HiD (dn ft : Nat) (V : Nat → Nat → Nat → Int32) (VX VY : Nat → Nat → Int32) (kd st gb it tn mn cx cy : Nat → Int32) : Prop :=
  ∀ q, q < ft → V dn 0 q = kd q ∧ V dn 1 q = st q ∧ V dn 2 q = gb q ∧ V dn 3 q = it q ∧ (¬ (st q).toInt = 0 → (tn q).toInt = 0 → nN (V dn 4 q) = nN (mn q) ∧ ∀ k, k < nN (mn q) → cF40 (VX dn) q k = cF40 cx q k ∧ cF40 (VY dn) q k = cF40 cy q k)
/-- all of it, with the names of the cells; n9: how many steps the list holds -/
def shG (cI cO : ClassId) (L : List Nat) (f : Nat → va_E) (e0 : Nat) (FA : Nat → Option Nat) (ea n9 : Nat) (own fe cl : Nat → Nat) (la : Nat → Nat → Nat) (nw md sp : Nat → Nat) (fm : Nat → Value) (SA : Nat → Option Nat)
    (bs dn T ft fN : Nat) (FT : Nat → Nat) (V : Nat → Nat → Nat → Int32) (VX VY : Nat → Nat → Int32) (tn rk wd tw pa pb wh of9 we kd st gb it mn cx cy : Nat → Int32) : Prop :=
  FeA cI L f own fN fe nw cl fm rk wd tw pa pb ∧ NwA cI L f own ft nw cl md kd st gb it tn mn cx cy ∧ HiA cI L f own bs T dn FT la cl V VX VY tn ∧ StA L f own bs T fN FT fe la sp SA wh of9 we ∧ LsA cO L f own e0 ea n9 SA ∧ NmA bs dn T ft fN FT ∧ ∀ q, q < ft → FA q = some (fe q)
/-- between two calls -/
def shB (cI cO : ClassId) (L : List Nat) (f : Nat → va_E) (e0 : Nat) (FA : Nat → Option Nat) (ea : Nat) (bs dn T ft : Nat) (FT : Nat → Nat) (V : Nat → Nat → Nat → Int32) (VX VY : Nat → Nat → Int32) (tn rk wd tw pa pb wh of9 we kd st gb it mn cx cy : Nat → Int32) : Prop :=
  ∃ (own fe cl : Nat → Nat) (la : Nat → Nat → Nat) (sp : Nat → Nat) (SA : Nat → Option Nat), shG cI cO L f e0 FA ea T own fe cl la (la dn) (fun _ => 0) sp (fun _ => .null) SA bs dn T ft (FT T) FT V VX VY tn rk wd tw pa pb wh of9 we kd st gb it mn cx cy ∧ HiD dn ft V VX VY kd st gb it tn mn cx cy ∧ ft = FT dn
/-- in a step: how it stood at dn is kept; md says which features have changed -/
def mdA (dn ft : Nat) (FT : Nat → Nat) (la : Nat → Nat → Nat) (nw md : Nat → Nat) (fm : Nat → Value) (V : Nat → Nat → Nat → Int32) (kd st gb it : Nat → Int32) : Prop :=
  ∀ q, q < ft → (md q = 0 → fm q = .null ∧ nw q = la dn q ∧ (q < FT dn → V dn 0 q = kd q ∧ V dn 1 q = st q ∧ V dn 2 q = gb q ∧ V dn 3 q = it q)) ∧ (¬ md q = 0 → fm q = .ref (la dn q) ∧ q < FT dn ∧ ¬ (V dn 1 q).toInt = 0 ∧ ¬ (st q).toInt = 0)
section
variable {P : Nat → Prop} {cI cO : ClassId} {L L1 : List Nat} {f f1 : Nat → va_E} {own own1 : Nat → Nat} {e0 ea n9 : Nat} {FA : Nat → Option Nat} {fe cl nw md sp : Nat → Nat} {la : Nat → Nat → Nat} {fm : Nat → Value} {SA : Nat → Option Nat} {bs dn T ft fN : Nat} {FT : Nat → Nat} {V : Nat → Nat → Nat → Int32} {VX VY : Nat → Nat → Int32} {tn rk wd tw pa pb wh of9 we kd st gb it mn cx cy : Nat → Int32}
theorem FeA_kp (h : kpT P L f own L1 f1 own1) (hp : ∀ q, q < fN → P (8 * q) ∧ P (8 * q + 1)) (hf : FeA cI L f own fN fe nw cl fm rk wd tw pa pb) : FeA cI L1 f1 own1 fN fe nw cl fm rk wd tw pa pb := fun q hq => feG_kp h (hp q hq).1 (hp q hq).2 (hf q hq)
theorem NwA_kp (h : kpT P L f own L1 f1 own1) (hp : ∀ q, q < ft → P (glM (md q) q) ∧ P (grM (md q) q)) (hf : NwA cI L f own ft nw cl md kd st gb it tn mn cx cy) : NwA cI L1 f1 own1 ft nw cl md kd st gb it tn mn cx cy := fun q hq => lkG_kp h (hp q hq).1 (hp q hq).2 (hf q hq)
theorem HiA_kp (h : kpT P L f own L1 f1 own1) (hp : ∀ t q, bs ≤ t → t ≤ T → q < FT t → P (8 * q + 2) ∧ P (8 * q + 3)) (hf : HiA cI L f own bs T dn FT la cl V VX VY tn) : HiA cI L1 f1 own1 bs T dn FT la cl V VX VY tn := fun t h1 h2 q hq =>
  ⟨fun h3 => lkG_kp h (hp t q h1 h2 hq).1 (hp t q h1 h2 hq).2 ((hf t h1 h2 q hq).1 h3), (hf t h1 h2 q hq).2⟩
theorem StA_kp (h : kpT P L f own L1 f1 own1) (hp : P 8003 ∧ P 8001) (hf : StA L f own bs T fN FT fe la sp SA wh of9 we) : StA L1 f1 own1 bs T fN FT fe la sp SA wh of9 we := fun t h1 h2 => by
  obtain ⟨g1, mv, ch, g2, g3⟩ := hf t h1 h2
  refine ⟨g1, mv, ch, h _ _ _ hp.2 g2, fun h3 => ?_⟩
  obtain ⟨⟨qs, g4, g5⟩, g6⟩ := g3 h3
  exact ⟨⟨qs, chn_kp h hp.1 g4, g5⟩, g6⟩
theorem LsA_kp (h : kpT P L f own L1 f1 own1) (hp : P 8001 ∧ P 8002) (hf : LsA cO L f own e0 ea n9 SA) : LsA cO L1 f1 own1 e0 ea n9 SA := by
  rcases hf with g | ⟨cap, g1, g2, g3, g4, g5⟩
  · exact Or.inl g
  · refine Or.inr ⟨cap, h _ _ _ hp.2 g1, g2, g3, g4, fun i hi => ?_⟩
    obtain ⟨y, vs, h1, h2⟩ := g5 i hi
    exact ⟨y, vs, h1, h _ _ _ hp.1 h2⟩
theorem StA_mono (h4 : StA L f own bs T fN FT fe la sp SA wh of9 we) : ∀ k t, bs ≤ t → t + k ≤ T → FT t ≤ FT (t + k) := by
  intro k
  induction k with
  | zero => intro t _ _; exact Nat.le_refl _
  | succ k ih =>
    intro t t1 t2
    have h5 := ih t t1 (by omega)
    obtain ⟨_, mv, ch, _, g⟩ := h4 (t + k + 1) (by omega) (by omega)
    have h6 := (g (by omega)).2
    rw [show t + k + 1 - 1 = t + k by omega] at h6
    rw [show t + (k + 1) = t + k + 1 by omega]
    omega
theorem StA_le (h4 : StA L f own bs T fN FT fe la sp SA wh of9 we) {t u : Nat} (h1 : bs ≤ t) (h2 : t ≤ u) (h3 : u ≤ T) : FT t ≤ FT u := by
  have := StA_mono h4 (u - t) t h1 (by omega)
  rw [show t + (u - t) = u by omega] at this; exact this
/-- the history behind a position may be forgotten -/
theorem StA_sub {T1 fN1 : Nat} (h : StA L f own bs T fN FT fe la sp SA wh of9 we) (h1 : T1 ≤ T) (h2 : fN1 ≤ fN) : StA L f own bs T1 fN1 FT fe la sp SA wh of9 we := by
  intro t t1 t2
  obtain ⟨g1, mv, ch, g2, g3⟩ := h t t1 (by omega)
  refine ⟨g1, mv, ch, g2, fun hb => ?_⟩
  obtain ⟨⟨qs, g4, g5, g6⟩, g7⟩ := g3 hb
  exact ⟨⟨qs, g4, g5, fun q hq hn => g6 q (by omega) hn⟩, g7⟩
/-- what others see of a feature -/
theorem sh_vw {cs : va_W} {q : Nat} (hF : FeA cI L f own fN fe nw cl fm rk wd tw pa pb) (hN : NwA cI L f own ft nw cl md kd st gb it tn mn cx cy) (hA : ∀ q, q < ft → FA q = some (fe q)) (hf : ft ≤ fN) (hq : q < ft) (hc : ∀ c ∈ cs, own c.1 / 8 ≠ q) : vwO cI (outPl L cs) f FA kd st tn mn cx cy q := by
  have hg : ∀ g, g / 8 = q → ∀ c ∈ cs, own c.1 ≠ g := fun g hg c h1 e => hc c h1 (by rw [e]; exact hg)
  have t1 : glM (md q) q / 8 = q := by unfold glM; split <;> omega
  have t2 : grM (md q) q / 8 = q := by unfold grM; split <;> omega
  obtain ⟨lo, lx, ly, ln, LX, LY, f1, f2, f3⟩ := hF q (by omega)
  have f1 := ce_out f1 (hg _ (by omega))
  obtain ⟨we, rv, n1, n2, n3, n4, n5⟩ := hN q hq
  have n1 := ce_out n1 (hg _ t1)
  have hfa := hA q hq
  refine ⟨⟨fe q, nw q, lo, rk q, wd q, tw q, pa q, pb q, gb q, it q, nI we, fm q, rv, hfa, ce_pl f1, ce_pl n1⟩, fun h0 => ?_, fun h0 => ?_⟩
  · have e := n4 h0
    subst e
    exact ⟨fe q, nw q, lo, rk q, wd q, tw q, pa q, pb q, gb q, it q, nI we, fm q, hfa, ce_pl f1, ce_pl n1⟩
  · obtain ⟨r, rx, ry, cap, X, Y, e, r1, r2, r3, r4, r5, r6⟩ := n5 h0
    subst e
    refine ⟨fe q, nw q, lo, rk q, wd q, tw q, pa q, pb q, gb q, it q, nI we, fm q, r, rx, ry, cap, X, Y, rgK (kd q).toInt, hfa, ce_pl f1, ce_pl n1, ⟨ce_pl (ce_out r1.1 (hg _ t2)), ce_pl (ce_out r1.2.1 (hg _ t2)), ce_pl (ce_out r1.2.2.1 (hg _ t2)), r1.2.2.2⟩, r2, r3, rgK_01 _, ?_, r5⟩
    unfold rgK; split <;> rfl
theorem outPl_nil : outPl L [] = L := by unfold outPl; simp
theorem shB_vw (h : shB cI cO L f e0 FA ea bs dn T ft FT V VX VY tn rk wd tw pa pb wh of9 we kd st gb it mn cx cy) : ∀ q, q < ft → vwO cI L f FA kd st tn mn cx cy q := by
  obtain ⟨own, fe, cl, la, sp, SA, ⟨h1, h2, h3, h4, h5, h6, h7⟩, h8, h9⟩ := h
  intro q hq
  have := sh_vw (cs := []) h1 h2 h7 h6.2.2.2.2.1 hq (fun c hc => by cases hc)
  rw [outPl_nil] at this
  exact this
end
end
section
/-! what a change makes of the relation -/
def upN {α : Type} (f : Nat → α) (k : Nat) (v : α) : Nat → α := fun j => if j = k then v else f j
theorem upN_at {α : Type} {f : Nat → α} {k : Nat} {v : α} : upN f k v k = v := if_pos rfl
theorem upN_o {α : Type} {f : Nat → α} {k j : Nat} {v : α} (h : j ≠ k) : upN f k v j = f j := if_neg h
/-- the kinds of cells that a change of feature q leaves alone -/
def notQ (q g : Nat) : Prop := g ≠ 8 * q ∧ g ≠ 8 * q + 1 ∧ g ≠ 8 * q + 4 ∧ g ≠ 8 * q + 5
/-- arrays that differ at q alone -/
def othS (q : Nat) (kd st gb it mn cx cy kd1 st1 gb1 it1 mn1 cx1 cy1 : Nat → Int32) : Prop :=
  ∀ p, p ≠ q → kd1 p = kd p ∧ st1 p = st p ∧ gb1 p = gb p ∧ it1 p = it p ∧ mn1 p = mn p ∧ ∀ k, k < 40 → cF40 cx1 p k = cF40 cx p k ∧ cF40 cy1 p k = cF40 cy p k
section
variable {P : Nat → Prop} {cI cO : ClassId} {L L1 : List Nat} {f f1 : Nat → va_E} {own own1 : Nat → Nat} {e0 ea n9 : Nat} {FA : Nat → Option Nat} {fe cl nw md sp : Nat → Nat} {la : Nat → Nat → Nat} {fm : Nat → Value} {SA : Nat → Option Nat} {bs dn T ft fN : Nat} {FT : Nat → Nat} {V : Nat → Nat → Nat → Int32} {VX VY : Nat → Nat → Int32} {tn rk wd tw pa pb wh of9 we kd st gb it mn cx cy kd1 st1 gb1 it1 mn1 cx1 cy1 : Nat → Int32}
/-- one feature has changed -/
theorem M_new {q nq m : Nat} (h : shG cI cO L f e0 FA ea n9 own fe cl la nw md sp fm SA bs dn dn ft ft FT V VX VY tn rk wd tw pa pb wh of9 we kd st gb it mn cx cy) (hM : mdA dn ft FT la nw md fm V kd st gb it) (hk : kpT (notQ q) L f own L1 f1 own1)
    (hfe : feG cI L1 f1 own1 q (fe q) nq (cl q) (.ref (la dn q)) (rk q) (wd q) (tw q) (pa q) (pb q)) (hlk : lkG cI L1 f1 own1 (glM m q) (grM m q) nq (cl q) (kd1 q) (st1 q) (gb1 q) (it1 q) (tn q) (nN (mn1 q)) (cF40 cx1 q) (cF40 cy1 q))
    (ho : othS q kd st gb it mn cx cy kd1 st1 gb1 it1 mn1 cx1 cy1) (hm : ¬ m = 0) (hq : q < ft) (hqd : q < FT dn) (hs : ¬ (V dn 1 q).toInt = 0) (hs1 : ¬ (st1 q).toInt = 0) :
    shG cI cO L1 f1 e0 FA ea n9 own1 fe cl la (upN nw q nq) (upN md q m) sp (upN fm q (.ref (la dn q))) SA bs dn dn ft ft FT V VX VY tn rk wd tw pa pb wh of9 we kd1 st1 gb1 it1 mn1 cx1 cy1 ∧ mdA dn ft FT la (upN nw q nq) (upN md q m) (upN fm q (.ref (la dn q))) V kd1 st1 gb1 it1 := by
  obtain ⟨h1, h2, h3, h4, h5, h6, h7⟩ := h
  have fN200 := h6.2.2.2.2.2
  refine ⟨⟨fun p hp => ?_, fun p hp => ?_, HiA_kp hk (fun t p t1 t2 hp => ⟨⟨by omega, by omega, by omega, by omega⟩, ⟨by omega, by omega, by omega, by omega⟩⟩) h3, StA_kp hk ⟨⟨by omega, by omega, by omega, by omega⟩, ⟨by omega, by omega, by omega, by omega⟩⟩ h4, LsA_kp hk ⟨⟨by omega, by omega, by omega, by omega⟩, ⟨by omega, by omega, by omega, by omega⟩⟩ h5, h6, h7⟩, fun p hp => ?_⟩
  · by_cases e : p = q
    · rw [e, upN_at, upN_at]; exact hfe
    · rw [upN_o e, upN_o e]; exact feG_kp hk ⟨by omega, by omega, by omega, by omega⟩ ⟨by omega, by omega, by omega, by omega⟩ (h1 p hp)
  · by_cases e : p = q
    · rw [e, upN_at, upN_at]; exact hlk
    · obtain ⟨a1, a2, a3, a4, a5, a6⟩ := ho p e
      rw [upN_o e, upN_o e, a1, a2, a3, a4, a5]
      refine lkG_cg a6 (lkG_kp hk ?_ ?_ (h2 p hp))
      · unfold glM; split <;> exact ⟨by omega, by omega, by omega, by omega⟩
      · unfold grM; split <;> exact ⟨by omega, by omega, by omega, by omega⟩
  · by_cases e : p = q
    · rw [e, upN_at, upN_at, upN_at]; exact ⟨fun g => absurd g hm, fun _ => ⟨rfl, hqd, hs, hs1⟩⟩
    · obtain ⟨a1, a2, a3, a4, a5, a6⟩ := ho p e
      rw [upN_o e, upN_o e, upN_o e, a1, a2, a3, a4]
      exact hM p hp
/-- nothing of the past is kept -/
def vC (kd st gb it mn : Nat → Int32) (j q : Nat) : Int32 := match j with
  | 0 => kd q | 1 => st q | 2 => gb q | 3 => it q | _ => mn q
theorem S_new (h1 : FeA cI L f own ft fe nw cl (fun _ => .null) rk wd tw pa pb) (h2 : NwA cI L f own ft nw cl (fun _ => 0) kd st gb it tn mn cx cy) (h4 : StA L f own dn dn ft FT fe la sp SA wh of9 we) (h5 : LsA cO L f own e0 ea dn SA) (h7 : ∀ q, q < ft → FA q = some (fe q)) (hft : ft ≤ 200) (hdn : dn ≤ 512) :
    shB cI cO L f e0 FA ea dn dn dn ft (fun _ => ft) (fun _ => vC kd st gb it mn) (fun _ => cx) (fun _ => cy) tn rk wd tw pa pb wh of9 we kd st gb it mn cx cy := by
  refine ⟨own, fe, cl, fun _ => nw, sp, SA, ⟨h1, h2, fun t t1 t2 q hq => ⟨fun g => h2 q hq, fun _ => ⟨rfl, hq, rfl, rfl, rfl, rfl⟩⟩, fun t t1 t2 => ?_, h5, ⟨Nat.le_refl _, Nat.le_refl _, hdn, fun _ _ _ => Nat.le_refl _, Nat.le_refl _, hft⟩, h7⟩, fun q hq => ⟨rfl, rfl, rfl, rfl, fun _ _ => ⟨rfl, fun k hk => ⟨rfl, rfl⟩⟩⟩, rfl⟩
  obtain ⟨g1, mv, ch, g2, g3⟩ := h4 t t1 t2
  exact ⟨g1, mv, ch, g2, fun hb => by omega⟩
/-- a step is booked -/
def rtG (g : Nat) : Nat := if g % 8 = 4 ∨ g % 8 = 5 then g - 2 else g
theorem ce_rt {g a : Nat} {e : va_E} (h : ce L f own g a e) : ce L f (fun b => rtG (own b)) (rtG g) a e := ⟨h.1, h.2.1, by show rtG (own a) = _; rw [h.2.2]⟩
theorem rwG_rt {g r rx ry n cap : Nat} {X Y : Nat → Int32} {rg : Int32} (h : rwG cI L f own g r rx ry n cap X Y rg) : rwG cI L f (fun b => rtG (own b)) (rtG g) r rx ry n cap X Y rg := ⟨ce_rt h.1, ce_rt h.2.1, ce_rt h.2.2.1, h.2.2.2⟩
theorem lkG_rt {gl gr a c : Nat} {kd st gb it tn : Int32} {n : Nat} {C D : Nat → Int32} (h : lkG cI L f own gl gr a c kd st gb it tn n C D) : lkG cI L f (fun b => rtG (own b)) (rtG gl) (rtG gr) a c kd st gb it tn n C D := by
  obtain ⟨we, rv, h1, h2, h3, h4⟩ := h
  refine ⟨we, rv, ce_rt h1, h2, h3, h4.1, fun h0 => ?_⟩
  obtain ⟨r, rx, ry, cap, X, Y, g1, g2, g3⟩ := h4.2 h0
  exact ⟨r, rx, ry, cap, X, Y, g1, rwG_rt g2, g3⟩
theorem feG_rt {q a nq c : Nat} {fv : Value} {rk wd tw pa pb : Int32} (h : feG cI L f own q a nq c fv rk wd tw pa pb) : feG cI L f (fun b => rtG (own b)) q a nq c fv rk wd tw pa pb := by
  obtain ⟨lo, lx, ly, ln, LX, LY, h1, h2, h3⟩ := h
  have e1 : rtG (8 * q) = 8 * q := by unfold rtG; rw [if_neg (by omega)]
  have e2 : rtG (8 * q + 1) = 8 * q + 1 := by unfold rtG; rw [if_neg (by omega)]
  refine ⟨lo, lx, ly, ln, LX, LY, ?_, ?_, h3⟩
  · have := ce_rt h1; rw [e1] at this; exact this
  · have := rwG_rt h2; rw [e2] at this; exact this
theorem rt_k : kpT (fun g => ¬ (g % 8 = 4 ∨ g % 8 = 5)) L f own L f (fun b => rtG (own b)) := fun g a e hp h => by
  have := ce_rt h
  unfold rtG at this
  rw [if_neg hp] at this
  exact this
theorem B_new {sq : Nat} {chv mv : Value} {qs : List Nat} {SA1 : Nat → Option Nat} {wq oq aq : Int32} (h1 : FeA cI L f own ft fe nw cl (fun _ => .null) rk wd tw pa pb) (h2 : NwA cI L f own ft nw cl md kd st gb it tn mn cx cy) (h3 : HiA cI L f own bs dn dn FT la cl V VX VY tn) (h4 : StA L f own bs dn ft FT fe la sp SA wh of9 we) (h5 : LsA cO L f own e0 ea (dn + 1) SA1) (hbs : bs ≤ dn) (hdn : dn + 1 ≤ 512) (hft : ft ≤ 200) (hF : ∀ t, bs ≤ t → t ≤ dn → FT t ≤ ft) (h7 : ∀ q, q < ft → FA q = some (fe q))
    (hM : ∀ q, q < ft → (md q = 0 → nw q = la dn q ∧ (q < FT dn → V dn 0 q = kd q ∧ V dn 1 q = st q ∧ V dn 2 q = gb q ∧ V dn 3 q = it q)) ∧ (¬ md q = 0 → q < FT dn ∧ ¬ (V dn 1 q).toInt = 0 ∧ ¬ (st q).toInt = 0)) (hnew : ∀ q, FT dn ≤ q → q < ft → ¬ (st q).toInt = 0)
    (hSA : ∀ i, i < dn → SA1 i = SA i) (hsq : SA1 dn = some sq) (hstep : ce L f own 8001 sq (.inr (11, [.int wq, .int oq, .int aq, mv, chv]))) (hch : chn L f own fe (la dn) nw chv qs) (hq1 : ∀ q ∈ qs, q < FT dn) (hq2 : ∀ q, q < ft → ¬ md q = 0 → q ∈ qs)
    (hmv : (ft = FT dn ∧ mv = .null) ∨ (ft = FT dn + 1 ∧ mv = .ref (fe (FT dn)))) :
    shB cI cO L f e0 FA ea bs (dn + 1) (dn + 1) ft (upN FT (dn + 1) ft) (upN V (dn + 1) (vC kd st gb it mn)) (upN VX (dn + 1) cx) (upN VY (dn + 1) cy) tn rk wd tw pa pb (upd wh (dn + 1) wq) (upd of9 (dn + 1) oq) (upd we (dn + 1) aq) kd st gb it mn cx cy := by
  have eF : upN FT (dn + 1) ft (dn + 1) = ft := upN_at
  have k8 : ∀ g, g = 8001 ∨ g = 8002 ∨ g = 8003 → ¬ (g % 8 = 4 ∨ g % 8 = 5) := fun g hg => by omega
  refine ⟨fun b => rtG (own b), fe, cl, upN la (dn + 1) nw, upN sp (dn + 1) sq, SA1, ⟨?_, ?_, ?_, ?_, LsA_kp rt_k ⟨k8 _ (by omega), k8 _ (by omega)⟩ h5, ⟨by omega, Nat.le_refl _, hdn, ?_, by rw [eF]; exact Nat.le_refl _, by rw [eF]; exact hft⟩, h7⟩, ?_, eF.symm⟩
  · rw [eF, upN_at]; exact fun q hq => feG_rt (h1 q hq)
  · rw [upN_at]
    intro q hq
    have := lkG_rt (h2 q hq)
    have e1 : rtG (glM (md q) q) = glM 0 q := by unfold rtG glM; split <;> split <;> simp <;> omega
    have e2 : rtG (grM (md q) q) = grM 0 q := by unfold rtG grM; split <;> split <;> simp <;> omega
    rw [e1, e2] at this; exact this
  · intro t t1 t2 q hq
    by_cases e : t = dn + 1
    · subst e
      simp only [upN_at] at hq ⊢
      have hbs9 : bs ≠ dn + 1 := by omega
      simp only [upN_o hbs9]
      refine ⟨fun _ => ?_, fun h0 => ⟨trivial, ?_, trivial, trivial, trivial, trivial⟩⟩
      rotate_left
      · have h0 : (st q).toInt = 0 := by
          rcases h0 with h0 | h0
          · exact h0
          · exact h0.2
        have hm : md q = 0 := Classical.byContradiction fun hm => ((hM q hq).2 hm).2.2 h0
        have hd : q < FT dn := Classical.byContradiction fun hd => hnew q (by omega) hq h0
        exact ((h3 dn hbs (Nat.le_refl _) q hd).2 (Or.inl (by rw [(((hM q hq).1 hm).2 hd).2.1]; exact h0))).2.1
      have := lkG_rt (h2 q hq)
      have e1 : rtG (glM (md q) q) = 8 * q + 2 := by unfold rtG glM; split <;> split <;> omega
      have e2 : rtG (grM (md q) q) = 8 * q + 3 := by unfold rtG grM; split <;> split <;> omega
      rw [e1, e2] at this; exact this
    · have ht : t ≤ dn := by omega
      simp only [upN_at, upN_o e] at hq ⊢
      have g := h3 t t1 ht q hq
      refine ⟨fun h0 => lkG_kp rt_k (by omega) (by omega) (g.1 h0), fun h0 => ?_⟩
      have hqf : q < ft := Nat.lt_of_lt_of_le hq (hF t t1 ht)
      have hqd : q < FT dn ∧ ((V t 1 q).toInt = 0 ∨ (q < FT dn ∧ (V dn 1 q).toInt = 0)) ∧ md q = 0 := by
        rcases h0 with h0 | ⟨_, h0⟩
        · have g2 := g.2 (Or.inl h0)
          refine ⟨Nat.lt_of_lt_of_le g2.2.1 (StA_le h4 (Nat.le_refl _) hbs (Nat.le_refl _)), Or.inl h0, Classical.byContradiction fun hm => ((hM q hqf).2 hm).2.1 ?_⟩
          rw [← g2.2.2.2.1]; exact h0
        · have h0 : (st q).toInt = 0 := h0
          have hm : md q = 0 := Classical.byContradiction fun hm => ((hM q hqf).2 hm).2.2 h0
          have hd : q < FT dn := Classical.byContradiction fun hd => hnew q (by omega) hqf h0
          exact ⟨hd, Or.inr ⟨hd, by rw [(((hM q hqf).1 hm).2 hd).2.1]; exact h0⟩, hm⟩
      obtain ⟨hd, h0, hm⟩ := hqd
      have g2 := g.2 h0
      have g3 := (hM q hqf).1 hm
      have g4 := g3.2 hd
      have hbs9 : bs ≠ dn + 1 := by omega
      simp only [upN_o hbs9]
      exact ⟨by rw [g2.1, g3.1], g2.2.1, g2.2.2.1.trans g4.1, g2.2.2.2.1.trans g4.2.1, g2.2.2.2.2.1.trans g4.2.2.1, g2.2.2.2.2.2.trans g4.2.2.2⟩
  · rw [eF]
    intro t t1 t2
    by_cases e : t = dn + 1
    · subst e
      simp only [show dn + 1 - 1 = dn by omega, upN_at, upN_o (show dn ≠ dn + 1 by omega)]
      refine ⟨hsq, mv, chv, ?_, fun _ => ⟨⟨qs, chn_kp rt_k (k8 _ (by omega)) hch, hq1, fun q hq hn => ?_⟩, hmv⟩⟩
      · rw [show upd wh (dn + 1) wq (dn + 1) = wq from up_at _ _ _, show upd of9 (dn + 1) oq (dn + 1) = oq from up_at _ _ _, show upd we (dn + 1) aq (dn + 1) = aq from up_at _ _ _]
        exact rt_k _ _ _ (k8 _ (by omega)) hstep
      · have hm : md q = 0 := Classical.byContradiction fun hm => hn (hq2 q hq hm)
        exact (((hM q hq).1 hm).1).symm
    · have ht : t ≤ dn := by omega
      obtain ⟨g1, m1, c1, g2, g3⟩ := StA_kp rt_k ⟨k8 _ (by omega), k8 _ (by omega)⟩ h4 t t1 ht
      simp only [upN_o e, upN_o (show t - 1 ≠ dn + 1 by omega)]
      rw [show upd wh (dn + 1) wq t = wh t from if_neg e, show upd of9 (dn + 1) oq t = of9 t from if_neg e, show upd we (dn + 1) aq t = we t from if_neg e]
      exact ⟨by rw [hSA _ (by omega)]; exact g1, m1, c1, g2, g3⟩
  · intro t t1 t2
    rw [eF]
    by_cases e : t = dn + 1
    · rw [e, eF]; exact Nat.le_refl _
    · rw [upN_o e]; exact hF t t1 (by omega)
  · intro q hq
    exact ⟨by rw [upN_at]; rfl, by rw [upN_at]; rfl, by rw [upN_at]; rfl, by rw [upN_at]; rfl, fun _ _ => ⟨by rw [upN_at]; rfl, fun k hk => ⟨by rw [upN_at], by rw [upN_at]⟩⟩⟩
end
end
section
/-! a house is made; a position is taken up again -/
section
variable {P : Nat → Prop} {cI cO : ClassId} {L L1 : List Nat} {f f1 : Nat → va_E} {own own1 : Nat → Nat} {e0 ea n9 : Nat} {FA : Nat → Option Nat} {fe cl nw md sp : Nat → Nat} {la : Nat → Nat → Nat} {fm : Nat → Value} {SA : Nat → Option Nat} {bs dn T ft fN : Nat} {FT : Nat → Nat} {V : Nat → Nat → Nat → Int32} {VX VY : Nat → Nat → Int32} {tn rk wd tw pa pb wh of9 we kd st gb it mn cx cy kd1 st1 gb1 it1 mn1 cx1 cy1 tn1 rk1 wd1 tw1 pa1 pb1 : Nat → Int32}
theorem M_made {fq nq c : Nat} (h : shG cI cO L f e0 FA ea n9 own fe cl la nw md sp fm SA bs dn dn ft ft FT V VX VY tn rk wd tw pa pb wh of9 we kd st gb it mn cx cy) (hM : mdA dn ft FT la nw md fm V kd st gb it) (hft : ft = FT dn) (h200 : ft < 200) (hk : kpT (fun _ => True) L f own L1 f1 own1)
    (hfe : feG cI L1 f1 own1 ft fq nq c .null (rk1 ft) (wd1 ft) (tw1 ft) (pa1 ft) (pb1 ft)) (hlk : lkG cI L1 f1 own1 (8 * ft + 2) (8 * ft + 3) nq c (kd1 ft) (st1 ft) (gb1 ft) (it1 ft) (tn1 ft) (nN (mn1 ft)) (cF40 cx1 ft) (cF40 cy1 ft))
    (ho : othS ft kd st gb it mn cx cy kd1 st1 gb1 it1 mn1 cx1 cy1) (hp : ∀ p, p ≠ ft → tn1 p = tn p ∧ rk1 p = rk p ∧ wd1 p = wd p ∧ tw1 p = tw p ∧ pa1 p = pa p ∧ pb1 p = pb p) (hmd : md ft = 0) :
    shG cI cO L1 f1 e0 (va_up FA ft (some fq)) ea n9 own1 (upN fe ft fq) (upN cl ft c) (fun t => upN (la t) ft nq) (upN nw ft nq) md sp (upN fm ft .null) SA bs dn dn (ft + 1) (ft + 1) FT V VX VY tn1 rk1 wd1 tw1 pa1 pb1 wh of9 we kd1 st1 gb1 it1 mn1 cx1 cy1 ∧ mdA dn (ft + 1) FT (fun t => upN (la t) ft nq) (upN nw ft nq) md (upN fm ft .null) V kd1 st1 gb1 it1 := by
  obtain ⟨h1, h2, h3, h4, h5, ⟨m1, m2, m3, m4, m5, m6⟩, h7⟩ := h
  have tr : ∀ g : Nat, (fun _ : Nat => True) g := fun _ => trivial
  refine ⟨⟨fun p hp1 => ?_, fun p hp1 => ?_, fun t t1 t2 p hp1 => ?_, fun t t1 t2 => ?_, LsA_kp hk ⟨trivial, trivial⟩ h5, ⟨m1, m2, m3, fun t t1 t2 => by have := m4 t t1 t2; omega, Nat.le_refl _, by omega⟩, fun p hp1 => ?_⟩, fun p hp1 => ?_⟩
  · by_cases e : p = ft
    · rw [e]; simp only [upN_at]; exact hfe
    · obtain ⟨a1, a2, a3, a4, a5, a6⟩ := hp p e
      simp only [upN_o e]; rw [a2, a3, a4, a5, a6]
      exact feG_kp hk trivial trivial (h1 p (by omega))
  · by_cases e : p = ft
    · rw [e, hmd]; simp only [upN_at]; exact hlk
    · obtain ⟨a1, a2, a3, a4, a5, a6⟩ := ho p e
      simp only [upN_o e]; rw [a1, a2, a3, a4, a5, (hp p e).1]
      exact lkG_cg a6 (lkG_kp hk trivial trivial (h2 p (by omega)))
  · have hp2 := m4 t t1 t2
    have e : p ≠ ft := by omega
    have g := h3 t t1 t2 p hp1
    simp only [upN_o e]
    rw [(hp p e).1]
    exact ⟨fun h0 => lkG_kp hk trivial trivial (g.1 h0), g.2⟩
  · obtain ⟨g1, mv, ch, g2, g3⟩ := StA_kp hk ⟨trivial, trivial⟩ h4 t t1 t2
    refine ⟨g1, mv, ch, g2, fun hb => ?_⟩
    obtain ⟨⟨qs, g4, g5, g6⟩, g7⟩ := g3 hb
    have hm := m4 (t - 1) (by omega) (by omega)
    have hm2 := m4 t (by omega) t2
    refine ⟨⟨qs, chn_cg (fun q hq => ?_) g4, g5, fun q hq hn => ?_⟩, ?_⟩
    · have e : q ≠ ft := by have := g5 q hq; omega
      simp only [upN_o e]; exact ⟨trivial, trivial, trivial⟩
    · by_cases e : q = ft
      · rw [e]; simp only [upN_at]
      · simp only [upN_o e]; exact g6 q (by omega) hn
    · rcases g7 with g7 | g7
      · exact Or.inl g7
      · refine Or.inr ⟨g7.1, ?_⟩
        rw [upN_o (by omega)]; exact g7.2
  · by_cases e : p = ft
    · rw [e, upN_at]; unfold va_up; rw [if_pos rfl]
    · rw [upN_o e]; unfold va_up; rw [if_neg e]; exact h7 p (by omega)
  · by_cases e : p = ft
    · rw [e]; simp only [upN_at]
      exact ⟨fun _ => ⟨trivial, trivial, fun g => by omega⟩, fun g => absurd hmd g⟩
    · obtain ⟨a1, a2, a3, a4, a5, a6⟩ := ho p e
      simp only [upN_o e]; rw [a1, a2, a3, a4]
      exact hM p (by omega)
/-- position d is taken up: features look as they did then -/
theorem U_pos {d ft1 : Nat} {FA1 : Nat → Option Nat} (h1 : FeA cI L1 f1 own1 (FT T) fe (la d) cl (fun _ => .null) rk wd tw pa pb) (hk : kpT (fun g => ¬ g % 8 = 0) L f own L1 f1 own1)
    (h : shG cI cO L f e0 FA ea T own fe cl la (la dn) (fun _ => 0) sp (fun _ => .null) SA bs dn T ft (FT T) FT V VX VY tn rk wd tw pa pb wh of9 we kd st gb it mn cx cy) (hD : HiD dn ft V VX VY kd st gb it tn mn cx cy) (hft : ft = FT dn) (hd1 : bs ≤ d) (hd2 : d ≤ T) (e1 : ft1 = FT d) (h7 : ∀ q, q < ft1 → FA1 q = some (fe q))
    (hc : ∀ q, q < ft1 → kd1 q = V d 0 q ∧ st1 q = V d 1 q ∧ gb1 q = V d 2 q ∧ it1 q = V d 3 q ∧ ((¬ (V d 1 q).toInt = 0 ∧ (tn q).toInt = 0) → nN (mn1 q) = nN (V d 4 q) ∧ ∀ k, k < nN (V d 4 q) → cF40 cx1 q k = cF40 (VX d) q k ∧ cF40 cy1 q k = cF40 (VY d) q k) ∧ ((V d 1 q).toInt = 0 → mn1 q = mn q ∧ ∀ k, k < 40 → cF40 cx1 q k = cF40 cx q k ∧ cF40 cy1 q k = cF40 cy q k)) :
    shB cI cO L1 f1 e0 FA1 ea bs d T ft1 FT V VX VY tn rk wd tw pa pb wh of9 we kd1 st1 gb1 it1 mn1 cx1 cy1 := by
  obtain ⟨g1, g2, g3, g4, g5, ⟨m1, m2, m3, m4, m5, m6⟩, g7⟩ := h
  have p8 : ∀ g, g = 8001 ∨ g = 8002 ∨ g = 8003 → ¬ g % 8 = 0 := fun g hg => by omega
  have h3 := HiA_kp hk (fun t q _ _ _ => ⟨by omega, by omega⟩) g3
  refine ⟨own1, fe, cl, la, sp, SA, ⟨h1, fun q hq => ?_, fun t t1 t2 q hq => ⟨(h3 t t1 t2 q hq).1, fun h0 => ?_⟩, StA_kp hk ⟨p8 _ (by omega), p8 _ (by omega)⟩ g4, LsA_kp hk ⟨p8 _ (by omega), p8 _ (by omega)⟩ g5, ⟨hd1, hd2, m3, m4, by rw [e1]; exact m4 d hd1 hd2, m6⟩, h7⟩, fun q hq => ?_, e1⟩
  · obtain ⟨c1, c2, c3, c4, c5, c6⟩ := hc q hq
    have hqd : q < FT d := by rw [← e1]; exact hq
    rw [c1, c2, c3, c4]
    by_cases s0 : (V d 1 q).toInt = 0
    · have w := (h3 d hd1 hd2 q hqd).2 (Or.inl s0)
      have hq2 : q < ft := by rw [hft]; exact Nat.lt_of_lt_of_le w.2.1 (StA_le g4 (Nat.le_refl _) m1 m2)
      have dd := hD q hq2
      have w2 := lkG_kp hk (by unfold glM; split <;> omega) (by unfold grM; split <;> omega) (g2 q hq2)
      rw [(c6 s0).1, w.1, w.2.2.1, w.2.2.2.1, w.2.2.2.2.1, w.2.2.2.2.2, dd.1, dd.2.1, dd.2.2.1, dd.2.2.2.1]
      exact lkG_cg (c6 s0).2 w2
    · have w := (h3 d hd1 hd2 q hqd).1 s0
      by_cases t0 : (tn q).toInt = 0
      · obtain ⟨n1, n2⟩ := c5 ⟨s0, t0⟩
        rw [n1]
        obtain ⟨we9, rv, w1, w2, w3, w4⟩ := w
        refine ⟨we9, rv, w1, w2, w3, w4.1, fun z => ?_⟩
        obtain ⟨r, rx, ry, cap, X, Y, v1, v2, v3, v4, v5, v6, v7⟩ := w4.2 z
        exact ⟨r, rx, ry, cap, X, Y, v1, v2, v3, v4, v5, fun k hk2 => by rw [(n2 k hk2).1, (n2 k hk2).2]; exact v6 k hk2, v7⟩
      · exact lkG_tn t0 w
  · -- those that are open
    have h0' : (V t 1 q).toInt = 0 ∨ (q < FT dn ∧ (V dn 1 q).toInt = 0) := by
      rcases h0 with h0 | ⟨hqd, h0⟩
      · exact Or.inl h0
      · have w := (h3 d hd1 hd2 q hqd).2 (Or.inl h0)
        exact Or.inr ⟨Nat.lt_of_lt_of_le w.2.1 (StA_le g4 (Nat.le_refl _) m1 m2), by rw [← w.2.2.2.1]; exact h0⟩
    have a := (h3 t t1 t2 q hq).2 h0'
    have hd0 : (V dn 1 q).toInt = 0 := by
      rcases h0' with z | z
      · rw [← a.2.2.2.1]; exact z
      · exact z.2
    have hqd : q < FT d := Nat.lt_of_lt_of_le a.2.1 (StA_le g4 (Nat.le_refl _) hd1 hd2)
    have hqn : q < FT dn := Nat.lt_of_lt_of_le a.2.1 (StA_le g4 (Nat.le_refl _) m1 m2)
    have b := (h3 d hd1 hd2 q hqd).2 (Or.inr ⟨hqn, hd0⟩)
    exact ⟨a.1.trans b.1.symm, a.2.1, a.2.2.1.trans b.2.2.1.symm, a.2.2.2.1.trans b.2.2.2.1.symm, a.2.2.2.2.1.trans b.2.2.2.2.1.symm, a.2.2.2.2.2.trans b.2.2.2.2.2.symm⟩
  · obtain ⟨c1, c2, c3, c4, c5, c6⟩ := hc q hq
    exact ⟨c1.symm, c2.symm, c3.symm, c4.symm, fun s0 t0 => by rw [c2] at s0; obtain ⟨n1, n2⟩ := c5 ⟨s0, t0⟩; exact ⟨n1.symm, fun k hk2 => by rw [n1] at hk2; exact ⟨(n2 k hk2).1.symm, (n2 k hk2).2.symm⟩⟩⟩
end
end
section
/-! booking a step: the loop over the features, the list -/
theorem ii_pre {n : Nat} (h : n < 2147483648) : nI n - 1 = iI (((n : Nat) : Int) - 1) := iI_of (by
  have h1 := nI_toInt (n := n) (by omega)
  have h2 : (1 : Int32).toInt = 1 := by decide
  rw [fb_subI (by rw [h1, h2]; omega) (by rw [h1, h2]; omega), h1, h2])
theorem ii_dec {z : Int} (h : -2147483647 ≤ z ∧ z < 2147483648) : iI z + Int32.ofInt (-1) = iI (z - 1) := iI_of (by
  have h1 := iI_toInt (z := z) (by omega)
  have h2 : (Int32.ofInt (-1)).toInt = -1 := by decide
  rw [fb_addI (by rw [h1, h2]; omega) (by rw [h1, h2]; omega), h1, h2]; omega)
theorem ii_nat {z : Int} {n : Nat} (h : z = ((n : Nat) : Int)) (hn : n < 2147483648) : iI z = nI n := by
  rw [h]; exact (iI_of (nI_toInt (by omega))).symm
def fmB (i : Nat) (fm : Nat → Value) : Nat → Value := fun q => if q < i then .null else fm q
theorem fmB_0 (fm : Nat → Value) : fmB 0 fm = fm := funext fun q => if_neg (Nat.not_lt_zero q)
section
variable {P : Nat → Prop} {cI cO : ClassId} {L L1 : List Nat} {f f1 : Nat → va_E} {own own1 : Nat → Nat} {e0 ea n9 : Nat} {FA : Nat → Option Nat} {fe cl nw md sp : Nat → Nat} {la : Nat → Nat → Nat} {fm : Nat → Value} {SA : Nat → Option Nat} {bs dn T ft fN : Nat} {FT : Nat → Nat} {V : Nat → Nat → Nat → Int32} {VX VY : Nat → Nat → Int32} {tn rk wd tw pa pb wh of9 we kd st gb it mn cx cy : Nat → Int32}
theorem fmB_e {i : Nat} (hF : FeA cI L f own i fe nw cl (fmB i fm) rk wd tw pa pb) : FeA cI L f own i fe nw cl (fun _ => .null) rk wd tw pa pb := fun q hq => by
  have := hF q hq
  unfold fmB at this
  rw [if_pos hq] at this
  exact this
/-- feature g in the loop -/
theorem bk_sp {g : Nat} (hF : FeA cI L f own ft fe nw cl (fmB g fm) rk wd tw pa pb) (hM : mdA dn ft FT la nw md fm V kd st gb it) (hg : g < ft) :
    (md g = 0 ∧ fm g = .null ∧ ∃ lo, ce L f own (8 * g) (fe g) (.inr (1, [.int (rk g), .int (wd g), .int (tw g), .int (pa g), .int (pb g), .ref lo, .ref (nw g), .null]))) ∨
    (¬ md g = 0 ∧ ∃ lo, ce L f own (8 * g) (fe g) (.inr (1, [.int (rk g), .int (wd g), .int (tw g), .int (pa g), .int (pb g), .ref lo, .ref (nw g), .ref (la dn g)]))) := by
  obtain ⟨lo, lx, ly, ln, LX, LY, h1, _⟩ := hF g hg
  unfold fmB at h1
  rw [if_neg (Nat.lt_irrefl g)] at h1
  by_cases m : md g = 0
  · rw [((hM g hg).1 m).1] at h1; exact Or.inl ⟨m, ((hM g hg).1 m).1, lo, h1⟩
  · rw [((hM g hg).2 m).1] at h1; exact Or.inr ⟨m, lo, h1⟩
theorem bk_F0 {g : Nat} (h0 : fm g = .null) (hF : FeA cI L f own ft fe nw cl (fmB g fm) rk wd tw pa pb) : FeA cI L f own ft fe nw cl (fmB (g + 1) fm) rk wd tw pa pb := fun q hq => by
  have := hF q hq
  unfold fmB at this ⊢
  by_cases e : q < g
  · rw [if_pos e] at this; rw [if_pos (by omega)]; exact this
  · rw [if_neg e] at this
    by_cases e2 : q = g
    · rw [if_pos (by omega)]; rw [e2, h0] at this; rw [e2]; exact this
    · rw [if_neg (by omega)]; exact this
theorem bk_F1 {g lo : Nat} {v : Value} (hF : FeA cI L f own ft fe nw cl (fmB g fm) rk wd tw pa pb) (hk : kpT (fun t => t ≠ 8 * g) L f own L1 f1 own1) (ho : ce L f own (8 * g) (fe g) (.inr (1, [.int (rk g), .int (wd g), .int (tw g), .int (pa g), .int (pb g), .ref lo, .ref (nw g), v]))) (hc : ce L1 f1 own1 (8 * g) (fe g) (.inr (1, [.int (rk g), .int (wd g), .int (tw g), .int (pa g), .int (pb g), .ref lo, .ref (nw g), .null]))) : FeA cI L1 f1 own1 ft fe nw cl (fmB (g + 1) fm) rk wd tw pa pb := fun q hq => by
  have h := hF q hq
  by_cases e2 : q = g
  · subst e2
    obtain ⟨lo2, lx, ly, ln, LX, LY, h1, h2, h3⟩ := h
    have e3 : lo2 = lo := by
      have := h1.2.1.symm.trans ho.2.1
      simp at this
      exact this.1
    subst e3
    refine ⟨lo2, lx, ly, ln, LX, LY, ?_, rwG_kp hk (by omega) h2, h3⟩
    unfold fmB; rw [if_pos (by omega)]; exact hc
  · have h := feG_kp hk (by omega) (by omega) h
    unfold fmB at h ⊢
    by_cases e : q < g
    · rw [if_pos e] at h; rw [if_pos (by omega)]; exact h
    · rw [if_neg e] at h; rw [if_neg (by omega)]; exact h
theorem chn_nc {fe lb la : Nat → Nat} {v : Value} {qs : List Nat} (h : chn L f own fe lb la v qs) : v = .null ∨ ∃ c, v = .ref c := by
  cases qs with
  | nil => exact Or.inl h
  | cons q qs => obtain ⟨c, nx, h1, _⟩ := h; exact Or.inr ⟨c, h1⟩
theorem bk_end {ea1 sq : Nat} {chv mv : Value} {qs : List Nat} {SA1 : Nat → Option Nat} {wq oq aq : Int32} (hG : shG cI cO L f e0 FA ea n9 own fe cl la nw md sp fm SA bs dn dn ft ft FT V VX VY tn rk wd tw pa pb wh of9 we kd st gb it mn cx cy) (hM : mdA dn ft FT la nw md fm V kd st gb it) (hk : kpT (fun g => ¬ g % 8 = 0 ∧ g ≠ 8002) L f own L1 f1 own1)
    (hF : FeA cI L1 f1 own1 ft fe nw cl (fun _ => .null) rk wd tw pa pb) (hL : LsA cO L1 f1 own1 e0 ea1 (dn + 1) SA1) (hdn : dn + 1 ≤ 512) (hnew : ∀ q, FT dn ≤ q → q < ft → ¬ (st q).toInt = 0) (hSA : ∀ i, i < dn → SA1 i = SA i) (hsq : SA1 dn = some sq) (hstep : ce L1 f1 own1 8001 sq (.inr (11, [.int wq, .int oq, .int aq, mv, chv]))) (hch : chn L1 f1 own1 fe (la dn) nw chv qs) (hq : (∀ q ∈ qs, q < ft ∧ ¬ md q = 0) ∧ ∀ q, q < ft → ¬ md q = 0 → q ∈ qs)
    (hmv : (ft = FT dn ∧ mv = .null) ∨ (ft = FT dn + 1 ∧ mv = .ref (fe (FT dn)))) :
    shB cI cO L1 f1 e0 FA ea1 bs (dn + 1) (dn + 1) ft (upN FT (dn + 1) ft) (upN V (dn + 1) (vC kd st gb it mn)) (upN VX (dn + 1) cx) (upN VY (dn + 1) cy) tn rk wd tw pa pb (upd wh (dn + 1) wq) (upd of9 (dn + 1) oq) (upd we (dn + 1) aq) kd st gb it mn cx cy := by
  obtain ⟨h1, h2, h3, h4, h5, ⟨m1, m2, m3, m4, m5, m6⟩, h7⟩ := hG
  refine B_new hF (NwA_kp hk (fun q hq => ⟨?_, ?_⟩) h2) (HiA_kp hk (fun t q t1 t2 hq => ?_) h3) (StA_kp hk ⟨by omega, by omega⟩ h4) hL m1 hdn m6 (fun t t1 t2 => m4 t t1 t2) h7 (fun q hq => ⟨fun g => ⟨((hM q hq).1 g).2.1, ((hM q hq).1 g).2.2⟩, fun g => ((hM q hq).2 g).2⟩) hnew hSA hsq hstep hch (fun q hq2 => ((hM q (hq.1 q hq2).1).2 (hq.1 q hq2).2).2.1) hq.2 hmv
  · unfold glM; split <;> omega
  · unfold grM; split <;> omega
  · have := m4 t t1 t2; omega
end
theorem bk_q0 {g : Nat} {md : Nat → Nat} {qs : List Nat} (h : (∀ q ∈ qs, q < g ∧ ¬ md q = 0) ∧ ∀ q, q < g → ¬ md q = 0 → q ∈ qs) (hm : md g = 0) : (∀ q ∈ qs, q < g + 1 ∧ ¬ md q = 0) ∧ ∀ q, q < g + 1 → ¬ md q = 0 → q ∈ qs :=
  ⟨fun q hq => ⟨by have := (h.1 q hq).1; omega, (h.1 q hq).2⟩, fun q hq hn => by
    by_cases e : q = g
    · rw [e] at hn; exact absurd hm hn
    · exact h.2 q (by omega) hn⟩
theorem bk_q1 {g : Nat} {md : Nat → Nat} {qs : List Nat} (h : (∀ q ∈ qs, q < g ∧ ¬ md q = 0) ∧ ∀ q, q < g → ¬ md q = 0 → q ∈ qs) (hm : ¬ md g = 0) : (∀ q ∈ g :: qs, q < g + 1 ∧ ¬ md q = 0) ∧ ∀ q, q < g + 1 → ¬ md q = 0 → q ∈ g :: qs :=
  ⟨fun q hq => by
    rcases List.mem_cons.mp hq with e | e
    · rw [e]; exact ⟨by omega, hm⟩
    · exact ⟨by have := (h.1 q e).1; omega, (h.1 q e).2⟩, fun q hq hn => by
    by_cases e : q = g
    · rw [e]; exact List.mem_cons_self ..
    · exact List.mem_cons_of_mem _ (h.2 q (by omega) hn)⟩
section
variable {cO : ClassId} {L L1 : List Nat} {f f1 : Nat → va_E} {own own1 : Nat → Nat} {e0 ea n sq cap : Nat} {SA SA1 : Nat → Option Nat}
theorem LsA_3 (h : LsA cO L f own e0 ea n SA) : (ea = e0 ∧ n = 0) ∨ (∃ cap : Nat, ce L f own 8002 ea (.inl (cO, cap, .inr (.inr (.inr (.inr SA))))) ∧ n < cap ∧ 10 ≤ cap ∧ cap ≤ 1000 ∧ ∀ i, i < n → ∃ (y : Nat) (vs : List Value), SA i = some y ∧ ce L f own 8001 y (.inr (11, vs))) ∨
    (ce L f own 8002 ea (.inl (cO, n, .inr (.inr (.inr (.inr SA))))) ∧ 10 ≤ n ∧ ∀ i, i < n → ∃ (y : Nat) (vs : List Value), SA i = some y ∧ ce L f own 8001 y (.inr (11, vs))) := by
  rcases h with h | ⟨cap, h1, h2, h3, h4, h5⟩
  · exact Or.inl h
  · by_cases e : n = cap
    · subst e; exact Or.inr (Or.inr ⟨h1, h3, h5⟩)
    · exact Or.inr (Or.inl ⟨cap, h1, by omega, h3, h4, h5⟩)
theorem LsA_add {vs : List Value} (hc : ce L1 f1 own1 8002 ea (.inl (cO, cap, .inr (.inr (.inr (.inr SA1)))))) (h1 : n + 1 ≤ cap) (h2 : 10 ≤ cap) (h3 : cap ≤ 1000) (hk : kpT (fun g => g ≠ 8002) L f own L1 f1 own1) (he : ∀ i, i < n → ∃ (y : Nat) (vs : List Value), SA i = some y ∧ ce L f own 8001 y (.inr (11, vs))) (hS : ∀ i, i < n → SA1 i = SA i) (hs : SA1 n = some sq) (hst : ce L1 f1 own1 8001 sq (.inr (11, vs))) : LsA cO L1 f1 own1 e0 ea (n + 1) SA1 :=
  Or.inr ⟨cap, hc, h1, h2, h3, fun i hi => by
    by_cases e : i = n
    · subst e; exact ⟨sq, vs, hs, hst⟩
    · obtain ⟨y, v, g1, g2⟩ := he i (by omega)
      exact ⟨y, v, by rw [hS i (by omega)]; exact g1, hk _ _ _ (by omega) g2⟩⟩
theorem up_oN {f : Nat → Option Nat} {k : Nat} {v : Option Nat} : ∀ i, i < k → va_up f k v i = f i := fun i hi => by unfold va_up; rw [if_neg (by omega)]
theorem up_atN {f : Nat → Option Nat} {k : Nat} {v : Option Nat} : va_up f k v k = v := by unfold va_up; rw [if_pos rfl]
theorem up_cpy {f g : Nat → Option Nat} {k : Nat} {v : Option Nat} : ∀ i, i < k → va_up (va_cpy f g 0 0 k) k v i = f i := fun i hi => by
  rw [up_oN i hi]; unfold va_cpy; rw [if_pos (by omega)]; congr 1; omega
end
end
section
set_option maxHeartbeats 4000000 in
set_option maxRecDepth 100000 in
theorem k_forgetUndone (l : Launch) (dC : Nat → ClassId) (dI : Nat → Nat → Nat) (cI cZ cF : ClassId) (sz : Nat) (cO : ClassId) (e0 : Nat) (mi : Nat) (x : Nat) (sh : Nat) (lw : Nat) (ro : Nat) (bq : Nat) (bp : Nat) (dq : Nat) (dp : Nat) (lv : Nat) (sl : Nat) (sd : Int32) (ul : Int32) (su : Int32) (sl : Nat) (ea : Nat) (nz : Nat) (mc9 : Int32) (dn : Nat) (SA : Nat → Option Nat) (L : List Nat) (f : Nat → va_E) (own : Nat → Nat) (hL : LsA cO L f own e0 ea nz SA) (hdn : dn ≤ nz) (hn5 : nz ≤ 512) : zML l yX10_forgetUndone cX10_forgetUndone 2 none ({ frames := 3, cells := 0, slots := 0, locals := 66 } : Room) [.ref x] (dC, dI) (zTyO cI cZ cF cO) e0 mi ([(oc8 x (.ref sh) (.ref lw) (.ref ro) (.ref bq) (.ref bp) (.ref dq) (.ref dp) (.ref lv) (.ref sl) (nI dn) sd ul su), (oc10 sl mc9 (.ref ea) (nI nz))] ++ va_pl L f) sz none (fun A t => ∃ (mc1 : Int32), ∃ (L1 : List Nat), ∃ (f1 : Nat → va_E), ∃ (SA1 : Nat → Option Nat), (LsA cO L1 f1 own e0 ea dn SA1) ∧ (∀ i, i < dn → SA1 i = SA i) ∧ (kpT (fun g => g ≠ 8002) L f own L1 f1 own) ∧ zPD (dC, dI) classes A ([(oc8 x (.ref sh) (.ref lw) (.ref ro) (.ref bq) (.ref bp) (.ref dq) (.ref dp) (.ref lv) (.ref sl) (nI dn) sd ul su), (oc10 sl mc1 (.ref ea) (nI dn))] ++ va_pl L1 f1) t.heap) 0 0 := by
  refine zInL (own := "ScaleShop") (loc := [(0, .ref x)]) rfl rfl rfl rfl (fun p e s m below meth c hx hb hr hts hown hlocks hml hnm9 A hA hS hP hD hK hXL hXN hK3 Q9 hQ9 ls hl => ?_)
  have hL9 := hL
  rcases hL with ⟨hEa, hn0⟩ | ⟨cap5, hce5, hnc5, hc10, hc1k, hent⟩
  · skip
    refine lv_aload_n hx hb dX10_forgetUndone_0 rfl (lv_at hl 0 rfl) ?_
    refine va_get (D := (dC, dI)) (ci := 8) (v := .ref sl) (C := RX10) (T := TX10) (N := 13) hx hb hts inX10 hown hK hP 0 rfl rfl 8 (Nat.le_of_ble_eq_true rfl) (hts _ mw_317) (fun _ h9 => h9) rfl dX10_forgetUndone_1 ?_
    obtain ⟨hPc, hDc, hFc, hI1⟩ := zi_sub (wc := [_]) hP hD hS hA [1] rfl rfl
    refine zcall (st1 := [.int (nI nz)]) (va_runV (As := []) (rest := []) ⟨hx, hb, hml, hown, hts⟩ (k_AL_size l dC dI cI cZ cF s.heap.size sl ea nz mc9 ) (csV_90 hts rfl rfl ⟨Nat.le_of_ble_eq_true rfl, Nat.le_of_ble_eq_true rfl⟩) (zPV2 (q0 := 0) (ci := 10) hPc hDc hK3 hXN rfl rfl) rfl rfl hl.1 rfl (lv_room (Nat.le_of_ble_eq_true rfl)) dX10_forgetUndone_4 ⟨Nat.le_of_ble_eq_true rfl, Nat.le_of_ble_eq_true rfl⟩) hS hFc hFc rfl (fun t H locs ht hB hk1 hS => ?_)
    obtain ⟨hP1, hD1⟩ := hB
    rw [ht] at hP1
    replace hP := z0 hP hD hk1 hP1 hI1
    clear hk1 hPc hDc hFc hP1 hD1 ht hI1
    refine lv_iconst (v := 1) hx hb dX10_forgetUndone_7 rfl ?_
    refine lv_isub hx hb dX10_forgetUndone_8 ?_
    refine zz_i (v := iI (((nz : Nat) : Int) - 1)) (ii_pre (by omega)) ?_
    refine lv_istore_n (lv' := [(1, .int (iI (((nz : Nat) : Int) - 1))), (0, .ref x)]) hx hb dX10_forgetUndone_9 rfl hl (Nat.le_of_ble_eq_true rfl) rfl (fun ls hl => ?_)
    refine lv_iload_n hx hb dX10_forgetUndone_10 rfl (lv_at hl 0 rfl) ?_
    refine lv_aload_n hx hb dX10_forgetUndone_11 rfl (lv_at hl 1 rfl) ?_
    refine va_get (D := (dC, dI)) (ci := 8) (v := .int (nI dn)) (C := RX10) (T := TX10) (N := 13) hx hb hts inX10 hown hK hP 0 rfl rfl 9 (Nat.le_of_ble_eq_true rfl) (hts _ mw_318) (fun _ h9 => h9) rfl dX10_forgetUndone_12 ?_
    have b9_2 : zlt (dn) := show dn < 2147483648 by omega
    refine lv_icmp_lt (tgt := 37) hx hb dX10_forgetUndone_15 rfl (fun c_1 => ?_) (fun c_1 => ?_)
    · have c_1 : (((nz : Nat) : Int) - 1) < ((dn : Nat) : Int) := zc_lt (iI_toInt (by omega)) (nI_toInt b9_2) c_1
      have hnd : nz = dn := (by omega)
      rw [hnd] at hL9
      obtain ⟨hP9, hD9⟩ := zu_part (cx := [(oc8 x (.ref sh) (.ref lw) (.ref ro) (.ref bq) (.ref bp) (.ref dq) (.ref dp) (.ref lv) (.ref sl) (nI dn) sd ul su), (oc10 sl mc9 (.ref ea) (nI nz))]) hP hD [true, true] rfl rfl
      have hE9 : (([(oc8 x (.ref sh) (.ref lw) (.ref ro) (.ref bq) (.ref bp) (.ref dq) (.ref dp) (.ref lv) (.ref sl) (nI dn) sd ul su), (oc10 sl mc9 (.ref ea) (nI nz))] ++ va_pl L f) : va_W) = ([(oc8 x (.ref sh) (.ref lw) (.ref ro) (.ref bq) (.ref bp) (.ref dq) (.ref dp) (.ref lv) (.ref sl) (nI dn) sd ul su), (oc10 sl mc9 (.ref ea) (nI dn))] ++ va_pl L f) := by rw [show nz = dn by omega]
      rw [hE9] at hP9 hD9
      rw [hQ9]
      exact W.vret hx hb hr (fun t ht hW => ⟨⟨rfl, mc9, L, f, SA, (hL9), (fun i hi => rfl), (kpT_rf), by rw [ht]; exact hP9, hD9⟩, hS.F ht⟩) hS.2.2 dX10_forgetUndone_37
    · have c_1 : ((dn : Nat) : Int) ≤ (((nz : Nat) : Int) - 1) := zc_nlt (iI_toInt (by omega)) (nI_toInt b9_2) c_1
      exfalso; omega
  · skip
    have hcap5 : 10 ≤ cap5 ∧ cap5 ≤ 1000 := ⟨hc10, hc1k⟩
    have hc9_1 : inPl L f [(oq ea cO cap5 SA)] := ⟨ce_pl hce5, trivial⟩
    have hD0_1 := hD
    obtain ⟨T_1, hT_1, hP, hD⟩ := pl_oT hP hD hc9_1 (List.pairwise_singleton _ _)
    obtain ⟨hP, hD⟩ := zre (W2 := ([_, _, _] ++ va_pl T_1 f)) hP hD rfl
    refine lv_aload_n hx hb dX10_forgetUndone_0 rfl (lv_at hl 0 rfl) ?_
    refine va_get (D := (dC, dI)) (ci := 8) (v := .ref sl) (C := RX10) (T := TX10) (N := 13) hx hb hts inX10 hown hK hP 0 rfl rfl 8 (Nat.le_of_ble_eq_true rfl) (hts _ mw_317) (fun _ h9 => h9) rfl dX10_forgetUndone_1 ?_
    obtain ⟨hPc, hDc, hFc, hI1⟩ := zi_sub (wc := [_]) hP hD hS hA [1] rfl rfl
    refine zcall (st1 := [.int (nI nz)]) (va_runV (As := []) (rest := []) ⟨hx, hb, hml, hown, hts⟩ (k_AL_size l dC dI cI cZ cF s.heap.size sl ea nz mc9 ) (csV_90 hts rfl rfl ⟨Nat.le_of_ble_eq_true rfl, Nat.le_of_ble_eq_true rfl⟩) (zPV2 (q0 := 0) (ci := 10) hPc hDc hK3 hXN rfl rfl) rfl rfl hl.1 rfl (lv_room (Nat.le_of_ble_eq_true rfl)) dX10_forgetUndone_4 ⟨Nat.le_of_ble_eq_true rfl, Nat.le_of_ble_eq_true rfl⟩) hS hFc hFc rfl (fun t H locs ht hB hk1 hS => ?_)
    obtain ⟨hP1, hD1⟩ := hB
    rw [ht] at hP1
    replace hP := z0 hP hD hk1 hP1 hI1
    clear hk1 hPc hDc hFc hP1 hD1 ht hI1
    refine lv_iconst (v := 1) hx hb dX10_forgetUndone_7 rfl ?_
    refine lv_isub hx hb dX10_forgetUndone_8 ?_
    refine zz_i (v := iI (((nz : Nat) : Int) - 1)) (ii_pre (by omega)) ?_
    refine lv_istore_n (lv' := [(1, .int (iI (((nz : Nat) : Int) - 1))), (0, .ref x)]) hx hb dX10_forgetUndone_9 rfl hl (Nat.le_of_ble_eq_true rfl) rfl (fun ls hl => ?_)
    have hl_10 : ∀ (n9 : Nat) (k5 : Nat) (mc5 : Int32) (SA5 : Nat → Option Nat) (H : Heap) (locs : List Loc) (ls : Array Slot), k5 < n9 → (dn ≤ k5 ∧ k5 ≤ nz) → (∀ i, i < k5 → SA5 i = SA i) → va_P (dC, dI) classes ([(oc8 x (.ref sh) (.ref lw) (.ref ro) (.ref bq) (.ref bp) (.ref dq) (.ref dp) (.ref lv) (.ref sl) (nI dn) sd ul su), (oc10 sl mc5 (.ref ea) (nI k5)), (oq ea cO cap5 SA5)] ++ va_pl T_1 f) H → va_D A ([(oc8 x (.ref sh) (.ref lw) (.ref ro) (.ref bq) (.ref bp) (.ref dq) (.ref dp) (.ref lv) (.ref sl) (nI dn) sd ul su), (oc10 sl mc5 (.ref ea) (nI k5)), (oq ea cO cap5 SA5)] ++ va_pl T_1 f) → va_S A s.heap H locs → lv_has ls 2 [(1, .int (iI (((k5 : Nat) : Int) - 1))), (0, .ref x)] → W p l e ({ frames := 3, cells := 0, slots := 0, locals := 66 } : Room) s m ([.ref x] : List Value).toArray below meth c H locs 0 0 Q9 (F0 m 10 ls []) := by
      intro n9
      induction n9 with
      | zero => intro k5 mc5 SA5 H locs ls hm; exact absurd hm (Nat.not_lt_zero _)
      | succ n9 ih_10 =>
        intro k5 mc5 SA5 H locs ls hm hk5 hsk hP hD hS hl
        refine lv_iload_n hx hb dX10_forgetUndone_10 rfl (lv_at hl 0 rfl) ?_
        refine lv_aload_n hx hb dX10_forgetUndone_11 rfl (lv_at hl 1 rfl) ?_
        refine va_get (D := (dC, dI)) (ci := 8) (v := .int (nI dn)) (C := RX10) (T := TX10) (N := 13) hx hb hts inX10 hown hK hP 0 rfl rfl 9 (Nat.le_of_ble_eq_true rfl) (hts _ mw_318) (fun _ h9 => h9) rfl dX10_forgetUndone_12 ?_
        have b9_4 : zlt (dn) := show dn < 2147483648 by omega
        refine lv_icmp_lt (tgt := 37) hx hb dX10_forgetUndone_15 rfl (fun c_3 => ?_) (fun c_3 => ?_)
        · have c_3 : (((k5 : Nat) : Int) - 1) < ((dn : Nat) : Int) := zc_lt (iI_toInt (by omega)) (nI_toInt b9_4) c_3
          obtain ⟨Lp1, fp1, hP, hD, hpin_1⟩ := pl_pn (X := [_, _]) (old := [_]) (new := []) (cs1 := [_]) (L := L) (cs := [(oq ea cO cap5 SA)]) hT_1 hP hD rfl rfl rfl
          obtain ⟨hfr_1, hkp_1, hce_1, hsx_1, hpw_1⟩ := id hpin_1
          have hkq := hkp_1 own own (fun g => g ≠ 8002) (fun _ _ => rfl) ⟨fun _ hp => absurd hce5.2.2 hp, trivial⟩
          have hLq : LsA cO Lp1 fp1 own e0 ea dn SA5 := Or.inr ⟨cap5, hce_1 own 0 _ _ _ rfl hce5.2.2, by omega, hcap5.1, hcap5.2, fun i hi => by obtain ⟨y, vs, g1, g2⟩ := hent i (by omega); exact ⟨y, vs, by rw [hsk i (by omega)]; exact g1, hkq _ _ _ (by omega) g2⟩⟩
          obtain ⟨hP9, hD9⟩ := zu_part (cx := [(oc8 x (.ref sh) (.ref lw) (.ref ro) (.ref bq) (.ref bp) (.ref dq) (.ref dp) (.ref lv) (.ref sl) (nI dn) sd ul su), (oc10 sl mc5 (.ref ea) (nI k5))]) hP hD [true, true] rfl rfl
          have hE9 : (([(oc8 x (.ref sh) (.ref lw) (.ref ro) (.ref bq) (.ref bp) (.ref dq) (.ref dp) (.ref lv) (.ref sl) (nI dn) sd ul su), (oc10 sl mc5 (.ref ea) (nI k5))] ++ va_pl Lp1 fp1) : va_W) = ([(oc8 x (.ref sh) (.ref lw) (.ref ro) (.ref bq) (.ref bp) (.ref dq) (.ref dp) (.ref lv) (.ref sl) (nI dn) sd ul su), (oc10 sl mc5 (.ref ea) (nI dn))] ++ va_pl Lp1 fp1) := by rw [show k5 = dn by omega]
          rw [hE9] at hP9 hD9
          rw [hQ9]
          exact W.vret hx hb hr (fun t ht hW => ⟨⟨rfl, mc5, Lp1, fp1, SA5, (hLq), (fun i hi => hsk i (by omega)), (hkq), by rw [ht]; exact hP9, hD9⟩, hS.F ht⟩) hS.2.2 dX10_forgetUndone_37
        · have c_3 : ((dn : Nat) : Int) ≤ (((k5 : Nat) : Int) - 1) := zc_nlt (iI_toInt (by omega)) (nI_toInt b9_4) c_3
          refine lv_iload_n hx hb dX10_forgetUndone_18 rfl (lv_at hl 0 rfl) ?_
          refine lv_if_lt (tgt := 37) hx hb dX10_forgetUndone_19 rfl (fun c_5 => ?_) (fun c_5 => ?_)
          · have c_5 : (((k5 : Nat) : Int) - 1) < 0 := zc_lt (iI_toInt (by omega)) rfl c_5
            exfalso; omega
          · have c_5 : 0 ≤ (((k5 : Nat) : Int) - 1) := zc_nlt (iI_toInt (by omega)) rfl c_5
            obtain ⟨j5, hj5⟩ : ∃ j, k5 = j + 1 := ⟨k5 - 1, by omega⟩
            subst hj5
            obtain ⟨y5, vs5, hy5, hcy5⟩ := hent j5 (by omega)
            refine lv_aload_n hx hb dX10_forgetUndone_22 rfl (lv_at hl 1 rfl) ?_
            refine va_get (D := (dC, dI)) (ci := 8) (v := .ref sl) (C := RX10) (T := TX10) (N := 13) hx hb hts inX10 hown hK hP 0 rfl rfl 8 (Nat.le_of_ble_eq_true rfl) (hts _ mw_317) (fun _ h9 => h9) rfl dX10_forgetUndone_23 ?_
            refine lv_iload_n hx hb dX10_forgetUndone_26 rfl (lv_at hl 0 rfl) ?_
            refine zz_i (v := nI j5) (ii_nat (by omega) (by omega)) ?_
            obtain ⟨hPc, hDc, hFc⟩ := zo_sub (wc := [_, _]) hP hD hS hA [1, 2] rfl rfl
            refine zcall (st1 := [.ref y5]) (va_runV (As := [.int (nI j5)]) (rest := []) ⟨hx, hb, hml, hown, hts⟩ (k_AL_remove l dC dI cI cZ cF H.size cO e0 mi sl ea mc5 j5 cap5 y5 SA5 (by rw [hsk j5 (by first | with_reducible assumption | omega)]; exact hy5) (by first | with_reducible assumption | omega) (by first | with_reducible assumption | omega)) (csV_91 hts rfl rfl ⟨Nat.le_of_ble_eq_true rfl, Nat.le_of_ble_eq_true rfl⟩) (zPVL (q0 := 0) (ci := 10) hPc hDc hK hXL hS hFc rfl rfl) rfl rfl hl.1 rfl (lv_room (Nat.le_of_ble_eq_true rfl)) dX10_forgetUndone_27 ⟨Nat.le_of_ble_eq_true rfl, Nat.le_of_ble_eq_true rfl⟩) hS hFc hFc rfl (fun t H locs ht hB hk1 hS => ?_)
            obtain ⟨hP1, hD1⟩ := hB
            rw [ht] at hP1
            obtain ⟨hP, hD⟩ := znQ (W2 := [_, (oc10 sl (mc5 + 1) (.ref ea) (nI j5)), (oq ea cO cap5 (va_up SA5 j5 none))]) hP hD hk1 hFc hP1 hD1 [1, 2] [true] [true, false, false] [1, 2] (by decide +kernel) rfl rfl rfl rfl rfl
            clear hk1 hPc hDc hFc hP1 hD1 ht
            refine lv_pop hx hb dX10_forgetUndone_30 rfl ?_
            refine lv_iinc (v := iI ((((j5 + 1) : Nat) : Int) - 1 - 1)) (lv' := [(1, .int (iI ((((j5 + 1) : Nat) : Int) - 1 - 1))), (0, .ref x)]) hx hb dX10_forgetUndone_31 hl (k := 0) rfl (ii_dec (by omega)) (Nat.le_of_ble_eq_true rfl) rfl (fun ls hl => ?_)
            refine lv_goto (tgt := 10) hx hb dX10_forgetUndone_34 rfl ?_
            have hl9 := lv_sub hl [0, 1] rfl
            have e9_1 : iI (((j5 : Nat) : Int) - 1) = (iI ((((j5 + 1) : Nat) : Int) - 1 - 1) : Int32) := by exact congrArg iI (by omega)
            have hl9 : lv_has ls 2 [(1, .int (iI (((j5 : Nat) : Int) - 1))), (0, .ref x)] := by rw [e9_1]; exact hl9
            exact ih_10 j5 (mc5 + 1) (va_up SA5 j5 none) H locs ls (by first | with_reducible assumption | omega) (by first | with_reducible assumption | omega) (by intro i hi; show (if i = j5 then none else SA5 i) = SA i; rw [if_neg (by first | with_reducible assumption | omega)]; exact hsk i (by first | with_reducible assumption | omega)) hP hD hS hl9
    have e9_1 : iI (((nz : Nat) : Int) - 1) = (iI (((nz : Nat) : Int) - 1) : Int32) := by rfl
    have hl9 : lv_has ls 2 [(1, .int (iI (((nz : Nat) : Int) - 1))), (0, .ref x)] := by rw [e9_1]; exact lv_sub hl [0, 1] rfl
    exact hl_10 _ nz mc9 SA H locs ls (Nat.lt_succ_self _) (by first | with_reducible assumption | omega) (by intro i hi; rfl) hP hD hS hl9
set_option maxHeartbeats 4000000 in
set_option maxRecDepth 100000 in
theorem k_seal (l : Launch) (dC : Nat → ClassId) (dI : Nat → Nat → Nat) (cI cZ cF : ClassId) (sz : Nat) (cO : ClassId) (e0 : Nat) (mi : Nat) (x : Nat) (sh : Nat) (lw : Nat) (ro : Nat) (bq : Nat) (bp : Nat) (dq : Nat) (dp : Nat) (lv : Nat) (sl : Nat) (sd : Int32) (ul : Int32) (su : Int32) (sl : Nat) (ea : Nat) (nz : Nat) (mc9 : Int32) (dn : Nat) (SA : Nat → Option Nat) (L : List Nat) (f : Nat → va_E) (own : Nat → Nat) (hL : LsA cO L f own e0 ea nz SA) (hdn : dn ≤ nz) (hn5 : nz ≤ 512) : zML l yX10_seal cX10_seal 1 (some .boolean) ({ frames := 4, cells := 0, slots := 0, locals := 87 } : Room) [.ref x] (dC, dI) (zTyO cI cZ cF cO) e0 mi ([(oc8 x (.ref sh) (.ref lw) (.ref ro) (.ref bq) (.ref bp) (.ref dq) (.ref dp) (.ref lv) (.ref sl) (nI dn) sd ul su), (oc10 sl mc9 (.ref ea) (nI nz))] ++ va_pl L f) sz (some (.int 1)) (fun A t => ∃ (mc1 : Int32), ∃ (L1 : List Nat), ∃ (f1 : Nat → va_E), ∃ (SA1 : Nat → Option Nat), (LsA cO L1 f1 own e0 ea dn SA1) ∧ (∀ i, i < dn → SA1 i = SA i) ∧ (kpT (fun g => g ≠ 8002) L f own L1 f1 own) ∧ zPD (dC, dI) classes A ([(oc8 x (.ref sh) (.ref lw) (.ref ro) (.ref bq) (.ref bp) (.ref dq) (.ref dp) (.ref lv) (.ref sl) (nI dn) (nI dn) ul 0), (oc10 sl mc1 (.ref ea) (nI dn))] ++ va_pl L1 f1) t.heap) 0 0 := by
  refine zInL (own := "ScaleShop") (loc := [(0, .ref x)]) rfl rfl rfl rfl (fun p e s m below meth c hx hb hr hts hown hlocks hml hnm9 A hA hS hP hD hK hXL hXN hK3 Q9 hQ9 ls hl => ?_)
  refine lv_aload_n hx hb dX10_seal_0 rfl (lv_at hl 0 rfl) ?_
  obtain ⟨hPc, hDc, hFc⟩ := zo_part (cx := [_, _]) hP hD hS hA [0, 1] rfl rfl
  refine zcall (st1 := []) (va_runV (As := []) (rest := []) ⟨hx, hb, hml, hown, hts⟩ (k_forgetUndone l dC dI cI cZ cF s.heap.size cO e0 mi x sh lw ro bq bp dq dp lv sl sd ul su sl ea nz mc9 dn SA L f own (by first | with_reducible assumption | assumption) (by first | with_reducible assumption | omega) (by first | with_reducible assumption | omega)) (csV_92 hts rfl rfl ⟨Nat.le_of_ble_eq_true rfl, Nat.le_of_ble_eq_true rfl⟩) (zPVL (q0 := 0) (ci := 8) hPc hDc hK hXL hS hFc rfl rfl) rfl rfl hl.1 rfl (lv_room (Nat.le_of_ble_eq_true rfl)) dX10_seal_1 ⟨Nat.le_of_ble_eq_true rfl, Nat.le_of_ble_eq_true rfl⟩) hS hFc hFc rfl (fun t H locs ht hB hk1 hS => ?_)
  obtain ⟨mc1, L1, f1, SA1, hL1, hS1, hkA, hP1, hD1⟩ := hB
  rw [ht] at hP1
  obtain ⟨hP, hD⟩ := znP (W2 := [_, (oc10 sl mc1 (.ref ea) (nI dn))]) hP hD hk1 hFc hP1 hD1 [0, 1] [] [false, false] [0, 1] (by decide +kernel) rfl rfl rfl rfl rfl
  clear hk1 hPc hDc hFc hP1 hD1 ht
  refine lv_aload_n hx hb dX10_seal_4 rfl (lv_at hl 0 rfl) ?_
  refine lv_aload_n hx hb dX10_seal_5 rfl (lv_at hl 0 rfl) ?_
  refine va_get (D := (dC, dI)) (ci := 8) (v := .int (nI dn)) (C := RX10) (T := TX10) (N := 13) hx hb hts inX10 hown hK hP 0 rfl rfl 9 (Nat.le_of_ble_eq_true rfl) (hts _ mw_318) (fun _ h9 => h9) rfl dX10_seal_6 ?_
  refine va_put (D := (dC, dI)) (ci := 8) (v := .int (nI dn)) (ty := .int) (C := RX10) (T := TX10) (N := 13) hx hb hts inX10 tyX10 tyX10_ok nmX10 hown hK hP hD hS 0 rfl rfl 10 (by decide) (hts _ mw_319) (fun _ h9 => h9) rfl (by decide +kernel) rfl rfl (Nat.le_of_ble_eq_true rfl) dX10_seal_9 (fun H locs hP hD hS => ?_)
  obtain ⟨hP, hD⟩ := zre (W2 := ([(oc8 x (.ref sh) (.ref lw) (.ref ro) (.ref bq) (.ref bp) (.ref dq) (.ref dp) (.ref lv) (.ref sl) (nI dn) (nI dn) ul su), _] ++ va_pl L1 f1)) hP hD rfl
  refine lv_aload_n hx hb dX10_seal_12 rfl (lv_at hl 0 rfl) ?_
  refine lv_iconst (v := 0) hx hb dX10_seal_13 rfl ?_
  refine va_put (D := (dC, dI)) (ci := 8) (v := .int 0) (ty := .int) (C := RX10) (T := TX10) (N := 13) hx hb hts inX10 tyX10 tyX10_ok nmX10 hown hK hP hD hS 0 rfl rfl 12 (by decide) (hts _ mw_321) (fun _ h9 => h9) rfl (by decide +kernel) rfl rfl (Nat.le_of_ble_eq_true rfl) dX10_seal_14 (fun H locs hP hD hS => ?_)
  obtain ⟨hP, hD⟩ := zre (W2 := ([(oc8 x (.ref sh) (.ref lw) (.ref ro) (.ref bq) (.ref bp) (.ref dq) (.ref dp) (.ref lv) (.ref sl) (nI dn) (nI dn) ul 0), _] ++ va_pl L1 f1)) hP hD rfl
  refine lv_iconst (v := 1) hx hb dX10_seal_17 rfl ?_
  obtain ⟨hP9, hD9⟩ := zu_part (cx := [_, _]) hP hD [true, true] rfl rfl
  rw [hQ9]
  exact W.zret (ty := .boolean) (v := 1) hx hb hr (rfl) (fun t ht hW => ⟨⟨rfl, mc1, L1, f1, SA1, (hL1), (hS1), (hkA), by rw [ht]; exact hP9, hD9⟩, hS.F ht⟩) hS.2.2 dX10_seal_18
end
