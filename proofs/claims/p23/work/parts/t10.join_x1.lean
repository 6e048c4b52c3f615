section
set_option maxHeartbeats 4000000 in
set_option maxRecDepth 100000 in
theorem lc_join_x1 {p : Program} {e : Env} {s : State} {m : MethodId} {below : List Frame} {meth : Method} {c : Code} (l : Launch) {b L9 : Nat} {xs : Nat → Int32} (C0 : lw_At p s m meth c b L9 xs) (dC : Nat → ClassId) (dI : Nat → Nat → Nat) (cI cZ cF cO : ClassId) (e0 mi : Nat) (x sl sh fa lw dr dx dy tg tx ty wy wx wz br bo aa ro za zw zx zy zg bq bp dq dp lv k0 : Nat) (hK : va_K (dC, dI) classes (zTyO cI cZ cF cO) s) (hXL : zXL e0 mi (fun q : Nat => s.heap.size ≤ q) s) (L : List Nat) (f : Nat → va_E) (FA : Nat → Option Nat) (ea : Nat) (nd : Nat) (nt : Nat) (nw : Nat) (ul : Int32) (su : Int32) (mc9 : Int32) (rd : Int32) (rt : Int32) (rw : Int32) (P : Nat → Int32) (Q : Nat → Int32) (TX : Nat → Int32) (TY : Nat → Int32) (WX : Nat → Int32) (WY : Nat → Int32) (AR : Nat → Int32) (b1 : Int32) (b2 : Int32) (b3 : Int32) (b4 : Int32) (b5 : Int32) (b6 : Int32) (b7 : Int32) (b8 : Int32) (c1 : Int32) (c2 : Int32) (c3 : Int32) (c4 : Int32) (a1 : Int32) (a2 : Int32) (a3 : Int32) (a4 : Int32) (nv : Int32) (RA : Nat → Option Nat) (WT : Nat → Int32) (EX : Nat → Int32) (EY : Nat → Int32) (GR : Nat → Int32) (LV : Nat → Int32) (y1 : Int64) (y2 : Int64) (y3 : Int64) (y4 : Int64) (a : Nat → Nat) (I0 : Nat → Int32) (J0 : Nat → Int64) (kd : Nat → Int32) (st : Nat → Int32) (gb : Nat → Int32) (it : Nat → Int32) (pa : Nat → Int32) (pb : Nat → Int32) (rk : Nat → Int32) (wd : Nat → Int32) (tw : Nat → Int32) (tn : Nat → Int32) (mn : Nat → Int32) (cx : Nat → Int32) (cy : Nat → Int32) (sa : Nat → Int32) (shs : Nat → Int32) (wh : Nat → Int32) (of9 : Nat → Int32) (we : Nat → Int32) (la : Nat → Int32) (lb : Nat → Int32) (lc : Nat → Int32) (ld : Nat → Int32) (P0 : Nat → Int32) (Q0 : Nat → Int32) (S0 : Nat → Int32) (ox : Nat → Int32) (oy : Nat → Int32) (mt : Nat → Int32) (wi : Nat → Int32) (ins : Nat → Int32) (T0 : Nat → Int32) (fl : Nat → Int32) (mk : Nat → Int32) (jx : Nat → Int32) (jy : Nat → Int32) (gr : Nat → Int32) (bs : Nat) (dn : Nat) (T : Nat) (ft : Nat) (Sn : Nat) (AD : Nat) (C : Nat) (ln : Nat) (FT : Nat → Nat) (cc : Nat → Nat) (W9 : Nat → Nat) (V : Nat → Nat → Nat → Int32) (VX : Nat → Nat → Int32) (VY : Nat → Nat → Int32) (cp cl U k9 : Nat) (hk9 : 6 * k9 + 6 ≤ L9) (hL9 : L9 ≤ 3072) {H : Heap} {locs : List Loc} {ls : Array Slot} (hPD : zPD (dC, dI) classes (fun q : Nat => s.heap.size ≤ q) (((oc8 x (.ref sh) (.ref lw) (.ref ro) (.ref bq) (.ref bp) (.ref dq) (.ref dp) (.ref lv) (.ref sl) (nI dn) (nI bs) ul su) :: (oc10 sl mc9 (.ref ea) (nI T)) :: (oc7 sh (.ref fa) (nI ft)) :: (oq fa cF 200 FA) :: (oc3 lw (.ref dr) (.ref tg) (.ref wy) (.ref br) (.ref bo) (.ref aa)) :: (oc6 dr (.ref dx) (.ref dy) (nI nd) rd) :: (oa dx cI 40 P) :: (oa dy cI 40 Q) :: (oc6 tg (.ref tx) (.ref ty) (nI nt) rt) :: (oa tx cI 3 TX) :: (oa ty cI 3 TY) :: (oc6 wy (.ref wx) (.ref wz) (nI nw) rw) :: (oa wx cI 2 WX) :: (oa wz cI 2 WY) :: (oc0 br b1 b2 b3 b4) :: (oc0 bo b5 b6 b7 b8) :: (oa aa cI 40 AR) :: (oc5 ro (.ref za) (.ref zw) (.ref zx) (.ref zy) (.ref zg) nv) :: (oq za cF 200 RA) :: (oa zw cI 200 WT) :: (oa zx cI 400 EX) :: (oa zy cI 400 EY) :: (oa zg cI 400 GR) :: (oc0 bq c1 c2 c3 c4) :: (oc0 bp a1 a2 a3 a4) :: (oc2 dq y1 y2) :: (oc2 dp y3 y4) :: (oa lv cZ 200 LV) :: (om k0 a (upd I0 26 (nI ln)) J0) :: (oa (a 1) cI 201 kd) :: (oa (a 5) cI 201 st) :: (oa (a 7) cI 201 gb) :: (oa (a 10) cI 201 it) :: (oa (a 8) cI 201 pa) :: (oa (a 9) cI 201 pb) :: (oa (a 2) cI 201 rk) :: (oa (a 3) cI 201 wd) :: (oa (a 4) cI 201 tw) :: (oa (a 6) cZ 201 tn) :: (oa (a 11) cI 201 mn) :: (oa (a 12) cI 8040 cx) :: (oa (a 13) cI 8040 cy) :: (oa (a 27) cI 516 sa) :: (oa (a 28) cI (4096 * cp) shs) :: (oa (a 16) cI 514 wh) :: (oa (a 17) cI 514 of9) :: (oa (a 18) cI 514 we) :: (oa (a 22) cI (64 * cl) la) :: (oa (a 23) cI (64 * cl) lb) :: (oa (a 24) cI (64 * cl) lc) :: (oa (a 25) cI (64 * cl) ld) :: (oa (a 29) cI 42 P0) :: (oa (a 30) cI 42 Q0) :: (oa (a 32) cI 8 S0) :: (oa (a 33) cI 42 ox) :: (oa (a 34) cI 42 oy) :: (oa (a 37) cZ 201 mt) :: (oa (a 38) cZ 201 wi) :: (oa (a 39) cZ 8040 ins) :: (oa (a 40) cI 6 T0) :: (oa (a 43) cZ 40 fl) :: (oa (a 50) cZ 201 mk) :: (oa (a 51) cI 402 jx) :: (oa (a 52) cI 402 jy) :: (oa (a 53) cI 402 gr) :: []) ++ va_pl L f) H) (hS : va_S (fun q : Nat => s.heap.size ≤ q) s.heap H locs) (hl : lv_has ls 4 [(3, .int (nI (6 * k9))), (2, .ref k0), (1, .ref x), (0, .ref b)]) (hB : shB cI cO L f e0 FA ea bs dn T ft FT V VX VY tn rk wd tw pa pb wh of9 we kd st gb it mn cx cy) (hI : INV k9 Sn AD C cc W9 bs T ft cp ln cl FT V VX VY tn rk wd tw pa pb kd st it mn cx cy sa shs lb lc) (hM : I0 0 = nI ft ∧ I0 19 = nI dn ∧ I0 20 = nI (T - dn) ∧ I0 21 = nI bs) (hU : U ≤ Sn * (28 * (AD + C) + 1000) + 200 * (AD + C)) (hbad : ¬ (0 ≤ (xs (6 * k9 + 1)).toInt ∧ (xs (6 * k9 + 1)).toInt < ((ft : Nat) : Int))) (hnext : ∀ (cp1 cl1 U1 : Nat) (H : Heap) (locs : List Loc) (ls : Array Slot), lawI s dC dI cI cZ cF cO e0 mi x sl sh fa lw dr dx dy tg tx ty wy wx wz br bo aa ro za zw zx zy zg bq bp dq dp lv k0 (k9 + 1) cp1 cl1 U1 H → va_S (fun q : Nat => s.heap.size ≤ q) s.heap H locs → lv_has ls 4 [(3, .int (nI (6 * k9))), (2, .ref k0), (1, .ref x), (0, .ref b)] → W p l e room_1 s m #[Value.ref b] below meth c H locs (1000 + 1010 * (k9 + 1) + cp1 + 4 * cl1) (45000 + 8192 * cp1 + 512 * cl1 + U1) (lw_Z below #[Value.ref b] s) (F0 m 1081 ls [])) : W p l e room_1 s m #[Value.ref b] below meth c H locs (1000 + 1010 * k9 + cp + 4 * cl) (45000 + 8192 * cp + 512 * cl + U) (lw_Z below #[Value.ref b] s) (F0 m 481 ls []) := by
  obtain ⟨hP, hD⟩ := hPD
  obtain ⟨hx, hb, hr, hml, hown, hts1, hX, hbl, hlocks, hgv⟩ := id C0
  have hts : ∀ w9 ∈ ws0, w9.before #[Value.ref b] s = true := fun w9 h => hts1 w9 (List.mem_filter.mp h).1
  have hA : ∀ q : Nat, s.heap.size ≤ q → (fun q : Nat => s.heap.size ≤ q) q := fun _ h => h
  have hbA : ¬ (fun q : Nat => s.heap.size ≤ q) b := Nat.not_le.mpr hbl
  have hXN := hXL.1
  have hK3 := hK.sub [0, 1, 2] rfl
  obtain ⟨hm0, hm19, hm20, hm21⟩ := hM
  have hpo := shB_po hB
  have hK512 : k9 + 1 ≤ 512 := r9_k hk9 hL9
  have hwfS := hI.1.1
  have hbdC := hI.1.2.2.1
  have hT0 := hI.1.2.2.2
  have hd9 := hpo.1
  have h200t : ∀ t, bs ≤ t → t ≤ T → FT t ≤ 200 := fun t t1 t2 => Nat.le_trans (hpo.2.1 t T t1 t2 (Nat.le_refl _)) hd9.2.2.2.2
  have h200f : ft ≤ 200 := (by rw [hd9.2.2.2.1]; exact h200t dn hd9.1 hd9.2.1)
  have hrkA : ∀ q, lvF ft st tn q → 0 ≤ (rk q).toInt ∧ (rk q).toInt ≤ 9 := fun q hq => (hI.1.2.1 q (Nat.lt_of_lt_of_le hq.1 (by rw [hd9.2.2.2.1]; exact hpo.2.1 dn T hd9.1 hd9.2.1 (Nat.le_refl _)))).1
  have hwdA : ∀ q, q < ft → 0 ≤ (wd q).toInt ∧ (wd q).toInt ≤ 100 := fun q hq => (hI.1.2.1 q (Nat.lt_of_lt_of_le hq (by rw [hd9.2.2.2.1]; exact hpo.2.1 dn T hd9.1 hd9.2.1 (Nat.le_refl _)))).2
  have hcp5 := INV_cp hI (Nat.le_of_succ_le hK512)
  have hcp1 := hI.2.2.1.2.1
  have hcnt := hI.2.2.2.1
  have hlst := hI.2.2.2.2
  have hlb := mul_514 (a := Sn) (b := C) (r9_s hcnt.2.1 hK512).2.1
  have hftA := bdC_F hbdC
  have hrm := room_c (Sn := Sn) (AD := AD) (C := C) (c := cp) (cl := cl) (U := U) (r9_s hcnt.2.1 hK512).1 hI.2.2.1.2.2.2.2.2 hlst.2.2.2.1 hU
  have hrc : 1000 + 1010 * k9 + cp + 4 * cl ≤ 600000 := (by omega)
  refine la_9_1 l C0 hk9 hL9 hS hl (rfl) (rfl) (rfl) ?_
  obtain ⟨hPc, hDc, hFc⟩ := zt_1 hP hD hS hA
  refine zcall (st1 := [.int (-1)]) (va_runV (As := [.int (xs (6 * k9 + 1)), .int (xs (6 * k9 + 2)), .int (xs (6 * k9 + 3))]) (rest := []) ⟨hx, hb, hml, hown, hts⟩ (k_join_x l dC dI cI cZ cF H.size x sh lw ro bq bp dq dp lv sl (nI bs) ul su (nI dn) fa ft FA (xs (6 * k9 + 1)) (xs (6 * k9 + 2)) (xs (6 * k9 + 3)) (h200f) (shB_fx hB) (Or.inl hbad)) (csV_261 hts rfl rfl ⟨Nat.le_of_ble_eq_true rfl, Nat.le_of_ble_eq_true rfl⟩) (zPV2 (q0 := 0) (ci := 8) hPc hDc hK3 hXN rfl rfl) rfl rfl hl.1 rfl (lv_room (Nat.le_of_ble_eq_true rfl)) dL_law_497 ⟨hrc, hrm⟩) hS hFc hFc rfl (fun t H locs ht hB hk1 hS => ?_)
  obtain ⟨q_1, q_2, hP1, hD1⟩ := hB
  rw [ht] at hP1
  obtain ⟨hP, hD⟩ := zs_1 (u0 := (oc8 x (.ref sh) (.ref lw) (.ref ro) (.ref bq) (.ref bp) (.ref dq) (.ref dp) (.ref lv) (.ref sl) (nI dn) (nI bs) q_1 q_2)) hP hD hk1 hFc hP1 hD1
  clear hk1 hPc hDc hFc hP1 hD1 ht
  refine lv_pop hx hb dL_law_500 rfl ?_
  refine la_9_2 l C0 hk9 hL9 hS hl (rfl) (rfl) (rfl) ?_
  obtain ⟨hPc, hDc, hFc⟩ := zt_2 hP hD hS hA
  refine zcall (st1 := [.int (-1)]) (va_runV (As := [.int (xs (6 * k9 + 1)), .int (xs (6 * k9 + 2)), .int (xs (6 * k9 + 3))]) (rest := []) ⟨hx, hb, hml, hown, hts⟩ (k_M_join_x1 l dC dI cI cZ cF H.size k0 a (upd I0 26 (nI ln)) J0 ft (xs (6 * k9 + 1)) (xs (6 * k9 + 2)) (xs (6 * k9 + 3)) (hm0) (h200f) (hbad)) (csV_262 hts rfl rfl ⟨Nat.le_of_ble_eq_true rfl, Nat.le_of_ble_eq_true rfl⟩) (zPV2 (q0 := 0) (ci := 9) hPc hDc hK3 hXN rfl rfl) rfl rfl hl.1 rfl (lv_room (Nat.le_of_ble_eq_true rfl)) dL_law_517 ⟨hrc, hrm⟩) hS hFc hFc rfl (fun t H locs ht hB hk1 hS => ?_)
  obtain ⟨hP1, hD1⟩ := hB
  rw [ht] at hP1
  obtain ⟨hP, hD⟩ := zs_2 (u28 := (om k0 a (upd (upd (upd I0 14 1) 15 (I0 15)) 26 (nI ln)) J0)) hP hD hk1 hFc hP1 hD1
  clear hk1 hPc hDc hFc hP1 hD1 ht
  refine lv_pop hx hb dL_law_520 rfl ?_
  refine lv_goto (tgt := 1081) hx hb dL_law_521 rfl ?_
  obtain ⟨hP9, hD9⟩ := And.intro hP hD
  refine W.widen (k := 1000 + 1010 * (k9 + 1) + cp + 4 * cl) (n := 45000 + 8192 * cp + 512 * cl + U) (by first | exact wdK | omega) (by first | exact Nat.le_refl _ | omega) ?_
  have e26 : upd (upd (upd (upd I0 14 1) 15 (I0 15)) 26 (nI ln)) 26 (nI ln) = (upd (upd (upd I0 14 1) 15 (I0 15)) 26 (nI ln)) := up_same rfl
  exact hnext cp cl U H locs ls (lawI_in L f FA ea nd nt nw q_1 q_2 mc9 rd rt rw P Q TX TY WX WY AR b1 b2 b3 b4 b5 b6 b7 b8 c1 c2 c3 c4 a1 a2 a3 a4 nv RA WT EX EY GR LV y1 y2 y3 y4 a (upd (upd (upd I0 14 1) 15 (I0 15)) 26 (nI ln)) J0 kd st gb it pa pb rk wd tw tn mn cx cy sa shs wh of9 we la lb lc ld P0 Q0 S0 ox oy mt wi ins T0 fl mk jx jy gr bs dn T ft Sn AD C ln FT cc W9 V VX VY (by rw [e26]; exact hP9) (by rw [e26]; exact hD9) (hB) (INV_K hI) ⟨hm0, hm19, hm20, hm21⟩ (by first | exact hU | omega)) hS (lv_sub hl [0, 1, 2, 3] rfl)
set_option maxHeartbeats 4000000 in
set_option maxRecDepth 100000 in
theorem lc_join_x2 {p : Program} {e : Env} {s : State} {m : MethodId} {below : List Frame} {meth : Method} {c : Code} (l : Launch) {b L9 : Nat} {xs : Nat → Int32} (C0 : lw_At p s m meth c b L9 xs) (dC : Nat → ClassId) (dI : Nat → Nat → Nat) (cI cZ cF cO : ClassId) (e0 mi : Nat) (x sl sh fa lw dr dx dy tg tx ty wy wx wz br bo aa ro za zw zx zy zg bq bp dq dp lv k0 : Nat) (hK : va_K (dC, dI) classes (zTyO cI cZ cF cO) s) (hXL : zXL e0 mi (fun q : Nat => s.heap.size ≤ q) s) (L : List Nat) (f : Nat → va_E) (FA : Nat → Option Nat) (ea : Nat) (nd : Nat) (nt : Nat) (nw : Nat) (ul : Int32) (su : Int32) (mc9 : Int32) (rd : Int32) (rt : Int32) (rw : Int32) (P : Nat → Int32) (Q : Nat → Int32) (TX : Nat → Int32) (TY : Nat → Int32) (WX : Nat → Int32) (WY : Nat → Int32) (AR : Nat → Int32) (b1 : Int32) (b2 : Int32) (b3 : Int32) (b4 : Int32) (b5 : Int32) (b6 : Int32) (b7 : Int32) (b8 : Int32) (c1 : Int32) (c2 : Int32) (c3 : Int32) (c4 : Int32) (a1 : Int32) (a2 : Int32) (a3 : Int32) (a4 : Int32) (nv : Int32) (RA : Nat → Option Nat) (WT : Nat → Int32) (EX : Nat → Int32) (EY : Nat → Int32) (GR : Nat → Int32) (LV : Nat → Int32) (y1 : Int64) (y2 : Int64) (y3 : Int64) (y4 : Int64) (a : Nat → Nat) (I0 : Nat → Int32) (J0 : Nat → Int64) (kd : Nat → Int32) (st : Nat → Int32) (gb : Nat → Int32) (it : Nat → Int32) (pa : Nat → Int32) (pb : Nat → Int32) (rk : Nat → Int32) (wd : Nat → Int32) (tw : Nat → Int32) (tn : Nat → Int32) (mn : Nat → Int32) (cx : Nat → Int32) (cy : Nat → Int32) (sa : Nat → Int32) (shs : Nat → Int32) (wh : Nat → Int32) (of9 : Nat → Int32) (we : Nat → Int32) (la : Nat → Int32) (lb : Nat → Int32) (lc : Nat → Int32) (ld : Nat → Int32) (P0 : Nat → Int32) (Q0 : Nat → Int32) (S0 : Nat → Int32) (ox : Nat → Int32) (oy : Nat → Int32) (mt : Nat → Int32) (wi : Nat → Int32) (ins : Nat → Int32) (T0 : Nat → Int32) (fl : Nat → Int32) (mk : Nat → Int32) (jx : Nat → Int32) (jy : Nat → Int32) (gr : Nat → Int32) (bs : Nat) (dn : Nat) (T : Nat) (ft : Nat) (Sn : Nat) (AD : Nat) (C : Nat) (ln : Nat) (FT : Nat → Nat) (cc : Nat → Nat) (W9 : Nat → Nat) (V : Nat → Nat → Nat → Int32) (VX : Nat → Nat → Int32) (VY : Nat → Nat → Int32) (cp cl U k9 : Nat) (hk9 : 6 * k9 + 6 ≤ L9) (hL9 : L9 ≤ 3072) (f0 : Nat) {H : Heap} {locs : List Loc} {ls : Array Slot} (hPD : zPD (dC, dI) classes (fun q : Nat => s.heap.size ≤ q) (((oc8 x (.ref sh) (.ref lw) (.ref ro) (.ref bq) (.ref bp) (.ref dq) (.ref dp) (.ref lv) (.ref sl) (nI dn) (nI bs) ul su) :: (oc10 sl mc9 (.ref ea) (nI T)) :: (oc7 sh (.ref fa) (nI ft)) :: (oq fa cF 200 FA) :: (oc3 lw (.ref dr) (.ref tg) (.ref wy) (.ref br) (.ref bo) (.ref aa)) :: (oc6 dr (.ref dx) (.ref dy) (nI nd) rd) :: (oa dx cI 40 P) :: (oa dy cI 40 Q) :: (oc6 tg (.ref tx) (.ref ty) (nI nt) rt) :: (oa tx cI 3 TX) :: (oa ty cI 3 TY) :: (oc6 wy (.ref wx) (.ref wz) (nI nw) rw) :: (oa wx cI 2 WX) :: (oa wz cI 2 WY) :: (oc0 br b1 b2 b3 b4) :: (oc0 bo b5 b6 b7 b8) :: (oa aa cI 40 AR) :: (oc5 ro (.ref za) (.ref zw) (.ref zx) (.ref zy) (.ref zg) nv) :: (oq za cF 200 RA) :: (oa zw cI 200 WT) :: (oa zx cI 400 EX) :: (oa zy cI 400 EY) :: (oa zg cI 400 GR) :: (oc0 bq c1 c2 c3 c4) :: (oc0 bp a1 a2 a3 a4) :: (oc2 dq y1 y2) :: (oc2 dp y3 y4) :: (oa lv cZ 200 LV) :: (om k0 a (upd I0 26 (nI ln)) J0) :: (oa (a 1) cI 201 kd) :: (oa (a 5) cI 201 st) :: (oa (a 7) cI 201 gb) :: (oa (a 10) cI 201 it) :: (oa (a 8) cI 201 pa) :: (oa (a 9) cI 201 pb) :: (oa (a 2) cI 201 rk) :: (oa (a 3) cI 201 wd) :: (oa (a 4) cI 201 tw) :: (oa (a 6) cZ 201 tn) :: (oa (a 11) cI 201 mn) :: (oa (a 12) cI 8040 cx) :: (oa (a 13) cI 8040 cy) :: (oa (a 27) cI 516 sa) :: (oa (a 28) cI (4096 * cp) shs) :: (oa (a 16) cI 514 wh) :: (oa (a 17) cI 514 of9) :: (oa (a 18) cI 514 we) :: (oa (a 22) cI (64 * cl) la) :: (oa (a 23) cI (64 * cl) lb) :: (oa (a 24) cI (64 * cl) lc) :: (oa (a 25) cI (64 * cl) ld) :: (oa (a 29) cI 42 P0) :: (oa (a 30) cI 42 Q0) :: (oa (a 32) cI 8 S0) :: (oa (a 33) cI 42 ox) :: (oa (a 34) cI 42 oy) :: (oa (a 37) cZ 201 mt) :: (oa (a 38) cZ 201 wi) :: (oa (a 39) cZ 8040 ins) :: (oa (a 40) cI 6 T0) :: (oa (a 43) cZ 40 fl) :: (oa (a 50) cZ 201 mk) :: (oa (a 51) cI 402 jx) :: (oa (a 52) cI 402 jy) :: (oa (a 53) cI 402 gr) :: []) ++ va_pl L f) H) (hS : va_S (fun q : Nat => s.heap.size ≤ q) s.heap H locs) (hl : lv_has ls 4 [(3, .int (nI (6 * k9))), (2, .ref k0), (1, .ref x), (0, .ref b)]) (hB : shB cI cO L f e0 FA ea bs dn T ft FT V VX VY tn rk wd tw pa pb wh of9 we kd st gb it mn cx cy) (hI : INV k9 Sn AD C cc W9 bs T ft cp ln cl FT V VX VY tn rk wd tw pa pb kd st it mn cx cy sa shs lb lc) (hM : I0 0 = nI ft ∧ I0 19 = nI dn ∧ I0 20 = nI (T - dn) ∧ I0 21 = nI bs) (hU : U ≤ Sn * (28 * (AD + C) + 1000) + 200 * (AD + C)) (hf0 : f0 < ft) (hv1 : xs (6 * k9 + 1) = nI f0) (hbad : ¬ (0 ≤ (xs (6 * k9 + 2)).toInt ∧ (xs (6 * k9 + 2)).toInt < ((ft : Nat) : Int))) (hnext : ∀ (cp1 cl1 U1 : Nat) (H : Heap) (locs : List Loc) (ls : Array Slot), lawI s dC dI cI cZ cF cO e0 mi x sl sh fa lw dr dx dy tg tx ty wy wx wz br bo aa ro za zw zx zy zg bq bp dq dp lv k0 (k9 + 1) cp1 cl1 U1 H → va_S (fun q : Nat => s.heap.size ≤ q) s.heap H locs → lv_has ls 4 [(3, .int (nI (6 * k9))), (2, .ref k0), (1, .ref x), (0, .ref b)] → W p l e room_1 s m #[Value.ref b] below meth c H locs (1000 + 1010 * (k9 + 1) + cp1 + 4 * cl1) (45000 + 8192 * cp1 + 512 * cl1 + U1) (lw_Z below #[Value.ref b] s) (F0 m 1081 ls [])) : W p l e room_1 s m #[Value.ref b] below meth c H locs (1000 + 1010 * k9 + cp + 4 * cl) (45000 + 8192 * cp + 512 * cl + U) (lw_Z below #[Value.ref b] s) (F0 m 481 ls []) := by
  obtain ⟨hP, hD⟩ := hPD
  obtain ⟨hx, hb, hr, hml, hown, hts1, hX, hbl, hlocks, hgv⟩ := id C0
  have hts : ∀ w9 ∈ ws0, w9.before #[Value.ref b] s = true := fun w9 h => hts1 w9 (List.mem_filter.mp h).1
  have hA : ∀ q : Nat, s.heap.size ≤ q → (fun q : Nat => s.heap.size ≤ q) q := fun _ h => h
  have hbA : ¬ (fun q : Nat => s.heap.size ≤ q) b := Nat.not_le.mpr hbl
  have hXN := hXL.1
  have hK3 := hK.sub [0, 1, 2] rfl
  obtain ⟨hm0, hm19, hm20, hm21⟩ := hM
  have hpo := shB_po hB
  have hK512 : k9 + 1 ≤ 512 := r9_k hk9 hL9
  have hwfS := hI.1.1
  have hbdC := hI.1.2.2.1
  have hT0 := hI.1.2.2.2
  have hd9 := hpo.1
  have h200t : ∀ t, bs ≤ t → t ≤ T → FT t ≤ 200 := fun t t1 t2 => Nat.le_trans (hpo.2.1 t T t1 t2 (Nat.le_refl _)) hd9.2.2.2.2
  have h200f : ft ≤ 200 := (by rw [hd9.2.2.2.1]; exact h200t dn hd9.1 hd9.2.1)
  have hrkA : ∀ q, lvF ft st tn q → 0 ≤ (rk q).toInt ∧ (rk q).toInt ≤ 9 := fun q hq => (hI.1.2.1 q (Nat.lt_of_lt_of_le hq.1 (by rw [hd9.2.2.2.1]; exact hpo.2.1 dn T hd9.1 hd9.2.1 (Nat.le_refl _)))).1
  have hwdA : ∀ q, q < ft → 0 ≤ (wd q).toInt ∧ (wd q).toInt ≤ 100 := fun q hq => (hI.1.2.1 q (Nat.lt_of_lt_of_le hq (by rw [hd9.2.2.2.1]; exact hpo.2.1 dn T hd9.1 hd9.2.1 (Nat.le_refl _)))).2
  have hcp5 := INV_cp hI (Nat.le_of_succ_le hK512)
  have hcp1 := hI.2.2.1.2.1
  have hcnt := hI.2.2.2.1
  have hlst := hI.2.2.2.2
  have hlb := mul_514 (a := Sn) (b := C) (r9_s hcnt.2.1 hK512).2.1
  have hftA := bdC_F hbdC
  have hrm := room_c (Sn := Sn) (AD := AD) (C := C) (c := cp) (cl := cl) (U := U) (r9_s hcnt.2.1 hK512).1 hI.2.2.1.2.2.2.2.2 hlst.2.2.2.1 hU
  have hrc : 1000 + 1010 * k9 + cp + 4 * cl ≤ 600000 := (by omega)
  refine la_9_1 l C0 hk9 hL9 hS hl (hv1) (rfl) (rfl) ?_
  obtain ⟨hPc, hDc, hFc⟩ := zt_1 hP hD hS hA
  refine zcall (st1 := [.int (-1)]) (va_runV (As := [.int (nI f0), .int (xs (6 * k9 + 2)), .int (xs (6 * k9 + 3))]) (rest := []) ⟨hx, hb, hml, hown, hts⟩ (k_join_x l dC dI cI cZ cF H.size x sh lw ro bq bp dq dp lv sl (nI bs) ul su (nI dn) fa ft FA (nI f0) (xs (6 * k9 + 2)) (xs (6 * k9 + 3)) (h200f) (shB_fx hB) (Or.inr hbad)) (csV_261 hts rfl rfl ⟨Nat.le_of_ble_eq_true rfl, Nat.le_of_ble_eq_true rfl⟩) (zPV2 (q0 := 0) (ci := 8) hPc hDc hK3 hXN rfl rfl) rfl rfl hl.1 rfl (lv_room (Nat.le_of_ble_eq_true rfl)) dL_law_497 ⟨hrc, hrm⟩) hS hFc hFc rfl (fun t H locs ht hB hk1 hS => ?_)
  obtain ⟨q_1, q_2, hP1, hD1⟩ := hB
  rw [ht] at hP1
  obtain ⟨hP, hD⟩ := zs_1 (u0 := (oc8 x (.ref sh) (.ref lw) (.ref ro) (.ref bq) (.ref bp) (.ref dq) (.ref dp) (.ref lv) (.ref sl) (nI dn) (nI bs) q_1 q_2)) hP hD hk1 hFc hP1 hD1
  clear hk1 hPc hDc hFc hP1 hD1 ht
  refine lv_pop hx hb dL_law_500 rfl ?_
  refine la_9_2 l C0 hk9 hL9 hS hl (hv1) (rfl) (rfl) ?_
  obtain ⟨hPc, hDc, hFc⟩ := zt_2 hP hD hS hA
  refine zcall (st1 := [.int (-1)]) (va_runV (As := [.int (nI f0), .int (xs (6 * k9 + 2)), .int (xs (6 * k9 + 3))]) (rest := []) ⟨hx, hb, hml, hown, hts⟩ (k_M_join_x2 l dC dI cI cZ cF H.size k0 a (upd I0 26 (nI ln)) J0 f0 ft (xs (6 * k9 + 2)) (xs (6 * k9 + 3)) (hm0) (h200f) (hbad) (hf0)) (csV_262 hts rfl rfl ⟨Nat.le_of_ble_eq_true rfl, Nat.le_of_ble_eq_true rfl⟩) (zPV2 (q0 := 0) (ci := 9) hPc hDc hK3 hXN rfl rfl) rfl rfl hl.1 rfl (lv_room (Nat.le_of_ble_eq_true rfl)) dL_law_517 ⟨hrc, hrm⟩) hS hFc hFc rfl (fun t H locs ht hB hk1 hS => ?_)
  obtain ⟨hP1, hD1⟩ := hB
  rw [ht] at hP1
  obtain ⟨hP, hD⟩ := zs_2 (u28 := (om k0 a (upd (upd (upd I0 14 1) 15 (I0 15)) 26 (nI ln)) J0)) hP hD hk1 hFc hP1 hD1
  clear hk1 hPc hDc hFc hP1 hD1 ht
  refine lv_pop hx hb dL_law_520 rfl ?_
  refine lv_goto (tgt := 1081) hx hb dL_law_521 rfl ?_
  obtain ⟨hP9, hD9⟩ := And.intro hP hD
  refine W.widen (k := 1000 + 1010 * (k9 + 1) + cp + 4 * cl) (n := 45000 + 8192 * cp + 512 * cl + U) (by first | exact wdK | omega) (by first | exact Nat.le_refl _ | omega) ?_
  have e26 : upd (upd (upd (upd I0 14 1) 15 (I0 15)) 26 (nI ln)) 26 (nI ln) = (upd (upd (upd I0 14 1) 15 (I0 15)) 26 (nI ln)) := up_same rfl
  exact hnext cp cl U H locs ls (lawI_in L f FA ea nd nt nw q_1 q_2 mc9 rd rt rw P Q TX TY WX WY AR b1 b2 b3 b4 b5 b6 b7 b8 c1 c2 c3 c4 a1 a2 a3 a4 nv RA WT EX EY GR LV y1 y2 y3 y4 a (upd (upd (upd I0 14 1) 15 (I0 15)) 26 (nI ln)) J0 kd st gb it pa pb rk wd tw tn mn cx cy sa shs wh of9 we la lb lc ld P0 Q0 S0 ox oy mt wi ins T0 fl mk jx jy gr bs dn T ft Sn AD C ln FT cc W9 V VX VY (by rw [e26]; exact hP9) (by rw [e26]; exact hD9) (hB) (INV_K hI) ⟨hm0, hm19, hm20, hm21⟩ (by first | exact hU | omega)) hS (lv_sub hl [0, 1, 2, 3] rfl)
set_option maxHeartbeats 4000000 in
set_option maxRecDepth 100000 in
theorem lc_join_r {p : Program} {e : Env} {s : State} {m : MethodId} {below : List Frame} {meth : Method} {c : Code} (l : Launch) {b L9 : Nat} {xs : Nat → Int32} (C0 : lw_At p s m meth c b L9 xs) (dC : Nat → ClassId) (dI : Nat → Nat → Nat) (cI cZ cF cO : ClassId) (e0 mi : Nat) (x sl sh fa lw dr dx dy tg tx ty wy wx wz br bo aa ro za zw zx zy zg bq bp dq dp lv k0 : Nat) (hK : va_K (dC, dI) classes (zTyO cI cZ cF cO) s) (hXL : zXL e0 mi (fun q : Nat => s.heap.size ≤ q) s) (L : List Nat) (f : Nat → va_E) (FA : Nat → Option Nat) (ea : Nat) (nd : Nat) (nt : Nat) (nw : Nat) (ul : Int32) (su : Int32) (mc9 : Int32) (rd : Int32) (rt : Int32) (rw : Int32) (P : Nat → Int32) (Q : Nat → Int32) (TX : Nat → Int32) (TY : Nat → Int32) (WX : Nat → Int32) (WY : Nat → Int32) (AR : Nat → Int32) (b1 : Int32) (b2 : Int32) (b3 : Int32) (b4 : Int32) (b5 : Int32) (b6 : Int32) (b7 : Int32) (b8 : Int32) (c1 : Int32) (c2 : Int32) (c3 : Int32) (c4 : Int32) (a1 : Int32) (a2 : Int32) (a3 : Int32) (a4 : Int32) (nv : Int32) (RA : Nat → Option Nat) (WT : Nat → Int32) (EX : Nat → Int32) (EY : Nat → Int32) (GR : Nat → Int32) (LV : Nat → Int32) (y1 : Int64) (y2 : Int64) (y3 : Int64) (y4 : Int64) (a : Nat → Nat) (I0 : Nat → Int32) (J0 : Nat → Int64) (kd : Nat → Int32) (st : Nat → Int32) (gb : Nat → Int32) (it : Nat → Int32) (pa : Nat → Int32) (pb : Nat → Int32) (rk : Nat → Int32) (wd : Nat → Int32) (tw : Nat → Int32) (tn : Nat → Int32) (mn : Nat → Int32) (cx : Nat → Int32) (cy : Nat → Int32) (sa : Nat → Int32) (shs : Nat → Int32) (wh : Nat → Int32) (of9 : Nat → Int32) (we : Nat → Int32) (la : Nat → Int32) (lb : Nat → Int32) (lc : Nat → Int32) (ld : Nat → Int32) (P0 : Nat → Int32) (Q0 : Nat → Int32) (S0 : Nat → Int32) (ox : Nat → Int32) (oy : Nat → Int32) (mt : Nat → Int32) (wi : Nat → Int32) (ins : Nat → Int32) (T0 : Nat → Int32) (fl : Nat → Int32) (mk : Nat → Int32) (jx : Nat → Int32) (jy : Nat → Int32) (gr : Nat → Int32) (bs : Nat) (dn : Nat) (T : Nat) (ft : Nat) (Sn : Nat) (AD : Nat) (C : Nat) (ln : Nat) (FT : Nat → Nat) (cc : Nat → Nat) (W9 : Nat → Nat) (V : Nat → Nat → Nat → Int32) (VX : Nat → Nat → Int32) (VY : Nat → Nat → Int32) (cp cl U k9 : Nat) (hk9 : 6 * k9 + 6 ≤ L9) (hL9 : L9 ≤ 3072) (f0 : Nat) (g0 : Nat) {H : Heap} {locs : List Loc} {ls : Array Slot} (hPD : zPD (dC, dI) classes (fun q : Nat => s.heap.size ≤ q) (((oc8 x (.ref sh) (.ref lw) (.ref ro) (.ref bq) (.ref bp) (.ref dq) (.ref dp) (.ref lv) (.ref sl) (nI dn) (nI bs) ul su) :: (oc10 sl mc9 (.ref ea) (nI T)) :: (oc7 sh (.ref fa) (nI ft)) :: (oq fa cF 200 FA) :: (oc3 lw (.ref dr) (.ref tg) (.ref wy) (.ref br) (.ref bo) (.ref aa)) :: (oc6 dr (.ref dx) (.ref dy) (nI nd) rd) :: (oa dx cI 40 P) :: (oa dy cI 40 Q) :: (oc6 tg (.ref tx) (.ref ty) (nI nt) rt) :: (oa tx cI 3 TX) :: (oa ty cI 3 TY) :: (oc6 wy (.ref wx) (.ref wz) (nI nw) rw) :: (oa wx cI 2 WX) :: (oa wz cI 2 WY) :: (oc0 br b1 b2 b3 b4) :: (oc0 bo b5 b6 b7 b8) :: (oa aa cI 40 AR) :: (oc5 ro (.ref za) (.ref zw) (.ref zx) (.ref zy) (.ref zg) nv) :: (oq za cF 200 RA) :: (oa zw cI 200 WT) :: (oa zx cI 400 EX) :: (oa zy cI 400 EY) :: (oa zg cI 400 GR) :: (oc0 bq c1 c2 c3 c4) :: (oc0 bp a1 a2 a3 a4) :: (oc2 dq y1 y2) :: (oc2 dp y3 y4) :: (oa lv cZ 200 LV) :: (om k0 a (upd I0 26 (nI ln)) J0) :: (oa (a 1) cI 201 kd) :: (oa (a 5) cI 201 st) :: (oa (a 7) cI 201 gb) :: (oa (a 10) cI 201 it) :: (oa (a 8) cI 201 pa) :: (oa (a 9) cI 201 pb) :: (oa (a 2) cI 201 rk) :: (oa (a 3) cI 201 wd) :: (oa (a 4) cI 201 tw) :: (oa (a 6) cZ 201 tn) :: (oa (a 11) cI 201 mn) :: (oa (a 12) cI 8040 cx) :: (oa (a 13) cI 8040 cy) :: (oa (a 27) cI 516 sa) :: (oa (a 28) cI (4096 * cp) shs) :: (oa (a 16) cI 514 wh) :: (oa (a 17) cI 514 of9) :: (oa (a 18) cI 514 we) :: (oa (a 22) cI (64 * cl) la) :: (oa (a 23) cI (64 * cl) lb) :: (oa (a 24) cI (64 * cl) lc) :: (oa (a 25) cI (64 * cl) ld) :: (oa (a 29) cI 42 P0) :: (oa (a 30) cI 42 Q0) :: (oa (a 32) cI 8 S0) :: (oa (a 33) cI 42 ox) :: (oa (a 34) cI 42 oy) :: (oa (a 37) cZ 201 mt) :: (oa (a 38) cZ 201 wi) :: (oa (a 39) cZ 8040 ins) :: (oa (a 40) cI 6 T0) :: (oa (a 43) cZ 40 fl) :: (oa (a 50) cZ 201 mk) :: (oa (a 51) cI 402 jx) :: (oa (a 52) cI 402 jy) :: (oa (a 53) cI 402 gr) :: []) ++ va_pl L f) H) (hS : va_S (fun q : Nat => s.heap.size ≤ q) s.heap H locs) (hl : lv_has ls 4 [(3, .int (nI (6 * k9))), (2, .ref k0), (1, .ref x), (0, .ref b)]) (hB : shB cI cO L f e0 FA ea bs dn T ft FT V VX VY tn rk wd tw pa pb wh of9 we kd st gb it mn cx cy) (hI : INV k9 Sn AD C cc W9 bs T ft cp ln cl FT V VX VY tn rk wd tw pa pb kd st it mn cx cy sa shs lb lc) (hM : I0 0 = nI ft ∧ I0 19 = nI dn ∧ I0 20 = nI (T - dn) ∧ I0 21 = nI bs) (hU : U ≤ Sn * (28 * (AD + C) + 1000) + 200 * (AD + C)) (hf0 : f0 < ft) (hv1 : xs (6 * k9 + 1) = nI f0) (hg0 : g0 < ft) (hv2 : xs (6 * k9 + 2) = nI g0) (hbad : ¬ (((st f0).toInt = 1 ∧ (st g0).toInt = 1) ∧ ((kd f0).toInt = 6 ∧ (kd g0).toInt = 6) ∧ (0 ≤ (xs (6 * k9 + 3)).toInt ∧ (xs (6 * k9 + 3)).toInt ≤ 1000) ∧ ((tn f0).toInt = 0 ∧ (tn g0).toInt = 0))) (hnext : ∀ (cp1 cl1 U1 : Nat) (H : Heap) (locs : List Loc) (ls : Array Slot), lawI s dC dI cI cZ cF cO e0 mi x sl sh fa lw dr dx dy tg tx ty wy wx wz br bo aa ro za zw zx zy zg bq bp dq dp lv k0 (k9 + 1) cp1 cl1 U1 H → va_S (fun q : Nat => s.heap.size ≤ q) s.heap H locs → lv_has ls 4 [(3, .int (nI (6 * k9))), (2, .ref k0), (1, .ref x), (0, .ref b)] → W p l e room_1 s m #[Value.ref b] below meth c H locs (1000 + 1010 * (k9 + 1) + cp1 + 4 * cl1) (45000 + 8192 * cp1 + 512 * cl1 + U1) (lw_Z below #[Value.ref b] s) (F0 m 1081 ls [])) : W p l e room_1 s m #[Value.ref b] below meth c H locs (1000 + 1010 * k9 + cp + 4 * cl) (45000 + 8192 * cp + 512 * cl + U) (lw_Z below #[Value.ref b] s) (F0 m 481 ls []) := by
  obtain ⟨hP, hD⟩ := hPD
  obtain ⟨hx, hb, hr, hml, hown, hts1, hX, hbl, hlocks, hgv⟩ := id C0
  have hts : ∀ w9 ∈ ws0, w9.before #[Value.ref b] s = true := fun w9 h => hts1 w9 (List.mem_filter.mp h).1
  have hA : ∀ q : Nat, s.heap.size ≤ q → (fun q : Nat => s.heap.size ≤ q) q := fun _ h => h
  have hbA : ¬ (fun q : Nat => s.heap.size ≤ q) b := Nat.not_le.mpr hbl
  have hXN := hXL.1
  have hK3 := hK.sub [0, 1, 2] rfl
  obtain ⟨hm0, hm19, hm20, hm21⟩ := hM
  have hpo := shB_po hB
  have hK512 : k9 + 1 ≤ 512 := r9_k hk9 hL9
  have hwfS := hI.1.1
  have hbdC := hI.1.2.2.1
  have hT0 := hI.1.2.2.2
  have hd9 := hpo.1
  have h200t : ∀ t, bs ≤ t → t ≤ T → FT t ≤ 200 := fun t t1 t2 => Nat.le_trans (hpo.2.1 t T t1 t2 (Nat.le_refl _)) hd9.2.2.2.2
  have h200f : ft ≤ 200 := (by rw [hd9.2.2.2.1]; exact h200t dn hd9.1 hd9.2.1)
  have hrkA : ∀ q, lvF ft st tn q → 0 ≤ (rk q).toInt ∧ (rk q).toInt ≤ 9 := fun q hq => (hI.1.2.1 q (Nat.lt_of_lt_of_le hq.1 (by rw [hd9.2.2.2.1]; exact hpo.2.1 dn T hd9.1 hd9.2.1 (Nat.le_refl _)))).1
  have hwdA : ∀ q, q < ft → 0 ≤ (wd q).toInt ∧ (wd q).toInt ≤ 100 := fun q hq => (hI.1.2.1 q (Nat.lt_of_lt_of_le hq (by rw [hd9.2.2.2.1]; exact hpo.2.1 dn T hd9.1 hd9.2.1 (Nat.le_refl _)))).2
  have hcp5 := INV_cp hI (Nat.le_of_succ_le hK512)
  have hcp1 := hI.2.2.1.2.1
  have hcnt := hI.2.2.2.1
  have hlst := hI.2.2.2.2
  have hlb := mul_514 (a := Sn) (b := C) (r9_s hcnt.2.1 hK512).2.1
  have hftA := bdC_F hbdC
  have hrm := room_c (Sn := Sn) (AD := AD) (C := C) (c := cp) (cl := cl) (U := U) (r9_s hcnt.2.1 hK512).1 hI.2.2.1.2.2.2.2.2 hlst.2.2.2.1 hU
  have hrc : 1000 + 1010 * k9 + cp + 4 * cl ≤ 600000 := (by omega)
  refine la_9_1 l C0 hk9 hL9 hS hl (hv1) (hv2) (rfl) ?_
  obtain ⟨hPc, hDc, hFc⟩ := zt_3 hP hD hS hA
  refine zcall (st1 := [.int (-1)]) (va_runV (As := [.int (nI f0), .int (nI g0), .int (xs (6 * k9 + 3))]) (rest := []) ⟨hx, hb, hml, hown, hts⟩ (k_join_r l dC dI cI cZ cF H.size x sh lw ro bq bp dq dp lv sl (nI bs) ul su (nI dn) fa ft FA f0 g0 L f kd st tn mn cx cy rk wd tw pa pb gb it (xs (6 * k9 + 3)) (h200f) (hf0) (hg0) (shB_va hB) (hbad)) (csV_261 hts rfl rfl ⟨Nat.le_of_ble_eq_true rfl, Nat.le_of_ble_eq_true rfl⟩) (zPV2 (q0 := 0) (ci := 8) hPc hDc hK3 hXN rfl rfl) rfl rfl hl.1 rfl (lv_room (Nat.le_of_ble_eq_true rfl)) dL_law_497 ⟨hrc, hrm⟩) hS hFc hFc rfl (fun t H locs ht hB hk1 hS => ?_)
  obtain ⟨q_1, q_2, hP1, hD1⟩ := hB
  rw [ht] at hP1
  obtain ⟨hP, hD⟩ := zs_3 (u0 := (oc8 x (.ref sh) (.ref lw) (.ref ro) (.ref bq) (.ref bp) (.ref dq) (.ref dp) (.ref lv) (.ref sl) (nI dn) (nI bs) q_1 q_2)) hP hD hk1 hFc hP1 hD1
  clear hk1 hPc hDc hFc hP1 hD1 ht
  refine lv_pop hx hb dL_law_500 rfl ?_
  refine la_9_2 l C0 hk9 hL9 hS hl (hv1) (hv2) (rfl) ?_
  obtain ⟨hPc, hDc, hFc⟩ := zt_5 hP hD hS hA
  refine zcall (st1 := [.int (-1)]) (va_runV (As := [.int (nI f0), .int (nI g0), .int (xs (6 * k9 + 3))]) (rest := []) ⟨hx, hb, hml, hown, hts⟩ (k_M_join_r l dC dI cI cZ cF H.size k0 a (upd I0 26 (nI ln)) J0 f0 g0 ft (xs (6 * k9 + 3)) st tn kd (hm0) (h200f) (hf0) (hg0) (hbad)) (csV_262 hts rfl rfl ⟨Nat.le_of_ble_eq_true rfl, Nat.le_of_ble_eq_true rfl⟩) (zPV2 (q0 := 0) (ci := 9) hPc hDc hK3 hXN rfl rfl) rfl rfl hl.1 rfl (lv_room (Nat.le_of_ble_eq_true rfl)) dL_law_517 ⟨hrc, hrm⟩) hS hFc hFc rfl (fun t H locs ht hB hk1 hS => ?_)
  obtain ⟨q_3, hP1, hD1⟩ := hB
  rw [ht] at hP1
  obtain ⟨hP, hD⟩ := zs_5 (u28 := (om k0 a (upd (upd (upd I0 14 q_3) 15 (I0 15)) 26 (nI ln)) J0)) hP hD hk1 hFc hP1 hD1
  clear hk1 hPc hDc hFc hP1 hD1 ht
  refine lv_pop hx hb dL_law_520 rfl ?_
  refine lv_goto (tgt := 1081) hx hb dL_law_521 rfl ?_
  obtain ⟨hP9, hD9⟩ := And.intro hP hD
  refine W.widen (k := 1000 + 1010 * (k9 + 1) + cp + 4 * cl) (n := 45000 + 8192 * cp + 512 * cl + U) (by first | exact wdK | omega) (by first | exact Nat.le_refl _ | omega) ?_
  have e26 : upd (upd (upd (upd I0 14 q_3) 15 (I0 15)) 26 (nI ln)) 26 (nI ln) = (upd (upd (upd I0 14 q_3) 15 (I0 15)) 26 (nI ln)) := up_same rfl
  exact hnext cp cl U H locs ls (lawI_in L f FA ea nd nt nw q_1 q_2 mc9 rd rt rw P Q TX TY WX WY AR b1 b2 b3 b4 b5 b6 b7 b8 c1 c2 c3 c4 a1 a2 a3 a4 nv RA WT EX EY GR LV y1 y2 y3 y4 a (upd (upd (upd I0 14 q_3) 15 (I0 15)) 26 (nI ln)) J0 kd st gb it pa pb rk wd tw tn mn cx cy sa shs wh of9 we la lb lc ld P0 Q0 S0 ox oy mt wi ins T0 fl mk jx jy gr bs dn T ft Sn AD C ln FT cc W9 V VX VY (by rw [e26]; exact hP9) (by rw [e26]; exact hD9) (hB) (INV_K hI) ⟨hm0, hm19, hm20, hm21⟩ (by first | exact hU | omega)) hS (lv_sub hl [0, 1, 2, 3] rfl)
set_option maxHeartbeats 4000000 in
set_option maxRecDepth 100000 in
theorem lc_join_n4 {p : Program} {e : Env} {s : State} {m : MethodId} {below : List Frame} {meth : Method} {c : Code} (l : Launch) {b L9 : Nat} {xs : Nat → Int32} (C0 : lw_At p s m meth c b L9 xs) (dC : Nat → ClassId) (dI : Nat → Nat → Nat) (cI cZ cF cO : ClassId) (e0 mi : Nat) (x sl sh fa lw dr dx dy tg tx ty wy wx wz br bo aa ro za zw zx zy zg bq bp dq dp lv k0 : Nat) (hK : va_K (dC, dI) classes (zTyO cI cZ cF cO) s) (hXL : zXL e0 mi (fun q : Nat => s.heap.size ≤ q) s) (L : List Nat) (f : Nat → va_E) (FA : Nat → Option Nat) (ea : Nat) (nd : Nat) (nt : Nat) (nw : Nat) (ul : Int32) (su : Int32) (mc9 : Int32) (rd : Int32) (rt : Int32) (rw : Int32) (P : Nat → Int32) (Q : Nat → Int32) (TX : Nat → Int32) (TY : Nat → Int32) (WX : Nat → Int32) (WY : Nat → Int32) (AR : Nat → Int32) (b1 : Int32) (b2 : Int32) (b3 : Int32) (b4 : Int32) (b5 : Int32) (b6 : Int32) (b7 : Int32) (b8 : Int32) (c1 : Int32) (c2 : Int32) (c3 : Int32) (c4 : Int32) (a1 : Int32) (a2 : Int32) (a3 : Int32) (a4 : Int32) (nv : Int32) (RA : Nat → Option Nat) (WT : Nat → Int32) (EX : Nat → Int32) (EY : Nat → Int32) (GR : Nat → Int32) (LV : Nat → Int32) (y1 : Int64) (y2 : Int64) (y3 : Int64) (y4 : Int64) (a : Nat → Nat) (I0 : Nat → Int32) (J0 : Nat → Int64) (kd : Nat → Int32) (st : Nat → Int32) (gb : Nat → Int32) (it : Nat → Int32) (pa : Nat → Int32) (pb : Nat → Int32) (rk : Nat → Int32) (wd : Nat → Int32) (tw : Nat → Int32) (tn : Nat → Int32) (mn : Nat → Int32) (cx : Nat → Int32) (cy : Nat → Int32) (sa : Nat → Int32) (shs : Nat → Int32) (wh : Nat → Int32) (of9 : Nat → Int32) (we : Nat → Int32) (la : Nat → Int32) (lb : Nat → Int32) (lc : Nat → Int32) (ld : Nat → Int32) (P0 : Nat → Int32) (Q0 : Nat → Int32) (S0 : Nat → Int32) (ox : Nat → Int32) (oy : Nat → Int32) (mt : Nat → Int32) (wi : Nat → Int32) (ins : Nat → Int32) (T0 : Nat → Int32) (fl : Nat → Int32) (mk : Nat → Int32) (jx : Nat → Int32) (jy : Nat → Int32) (gr : Nat → Int32) (bs : Nat) (dn : Nat) (T : Nat) (ft : Nat) (Sn : Nat) (AD : Nat) (C : Nat) (ln : Nat) (FT : Nat → Nat) (cc : Nat → Nat) (W9 : Nat → Nat) (V : Nat → Nat → Nat → Int32) (VX : Nat → Nat → Int32) (VY : Nat → Nat → Int32) (cp cl U k9 : Nat) (hk9 : 6 * k9 + 6 ≤ L9) (hL9 : L9 ≤ 3072) (f0 : Nat) (g0 : Nat) {H : Heap} {locs : List Loc} {ls : Array Slot} (hPD : zPD (dC, dI) classes (fun q : Nat => s.heap.size ≤ q) (((oc8 x (.ref sh) (.ref lw) (.ref ro) (.ref bq) (.ref bp) (.ref dq) (.ref dp) (.ref lv) (.ref sl) (nI dn) (nI bs) ul su) :: (oc10 sl mc9 (.ref ea) (nI T)) :: (oc7 sh (.ref fa) (nI ft)) :: (oq fa cF 200 FA) :: (oc3 lw (.ref dr) (.ref tg) (.ref wy) (.ref br) (.ref bo) (.ref aa)) :: (oc6 dr (.ref dx) (.ref dy) (nI nd) rd) :: (oa dx cI 40 P) :: (oa dy cI 40 Q) :: (oc6 tg (.ref tx) (.ref ty) (nI nt) rt) :: (oa tx cI 3 TX) :: (oa ty cI 3 TY) :: (oc6 wy (.ref wx) (.ref wz) (nI nw) rw) :: (oa wx cI 2 WX) :: (oa wz cI 2 WY) :: (oc0 br b1 b2 b3 b4) :: (oc0 bo b5 b6 b7 b8) :: (oa aa cI 40 AR) :: (oc5 ro (.ref za) (.ref zw) (.ref zx) (.ref zy) (.ref zg) nv) :: (oq za cF 200 RA) :: (oa zw cI 200 WT) :: (oa zx cI 400 EX) :: (oa zy cI 400 EY) :: (oa zg cI 400 GR) :: (oc0 bq c1 c2 c3 c4) :: (oc0 bp a1 a2 a3 a4) :: (oc2 dq y1 y2) :: (oc2 dp y3 y4) :: (oa lv cZ 200 LV) :: (om k0 a (upd I0 26 (nI ln)) J0) :: (oa (a 1) cI 201 kd) :: (oa (a 5) cI 201 st) :: (oa (a 7) cI 201 gb) :: (oa (a 10) cI 201 it) :: (oa (a 8) cI 201 pa) :: (oa (a 9) cI 201 pb) :: (oa (a 2) cI 201 rk) :: (oa (a 3) cI 201 wd) :: (oa (a 4) cI 201 tw) :: (oa (a 6) cZ 201 tn) :: (oa (a 11) cI 201 mn) :: (oa (a 12) cI 8040 cx) :: (oa (a 13) cI 8040 cy) :: (oa (a 27) cI 516 sa) :: (oa (a 28) cI (4096 * cp) shs) :: (oa (a 16) cI 514 wh) :: (oa (a 17) cI 514 of9) :: (oa (a 18) cI 514 we) :: (oa (a 22) cI (64 * cl) la) :: (oa (a 23) cI (64 * cl) lb) :: (oa (a 24) cI (64 * cl) lc) :: (oa (a 25) cI (64 * cl) ld) :: (oa (a 29) cI 42 P0) :: (oa (a 30) cI 42 Q0) :: (oa (a 32) cI 8 S0) :: (oa (a 33) cI 42 ox) :: (oa (a 34) cI 42 oy) :: (oa (a 37) cZ 201 mt) :: (oa (a 38) cZ 201 wi) :: (oa (a 39) cZ 8040 ins) :: (oa (a 40) cI 6 T0) :: (oa (a 43) cZ 40 fl) :: (oa (a 50) cZ 201 mk) :: (oa (a 51) cI 402 jx) :: (oa (a 52) cI 402 jy) :: (oa (a 53) cI 402 gr) :: []) ++ va_pl L f) H) (hS : va_S (fun q : Nat => s.heap.size ≤ q) s.heap H locs) (hl : lv_has ls 4 [(3, .int (nI (6 * k9))), (2, .ref k0), (1, .ref x), (0, .ref b)]) (hB : shB cI cO L f e0 FA ea bs dn T ft FT V VX VY tn rk wd tw pa pb wh of9 we kd st gb it mn cx cy) (hI : INV k9 Sn AD C cc W9 bs T ft cp ln cl FT V VX VY tn rk wd tw pa pb kd st it mn cx cy sa shs lb lc) (hM : I0 0 = nI ft ∧ I0 19 = nI dn ∧ I0 20 = nI (T - dn) ∧ I0 21 = nI bs) (hU : U ≤ Sn * (28 * (AD + C) + 1000) + 200 * (AD + C)) (hf0 : f0 < ft) (hv1 : xs (6 * k9 + 1) = nI f0) (hg0 : g0 < ft) (hv2 : xs (6 * k9 + 2) = nI g0) (hgf : g0 ≠ f0) (hok : ((st f0).toInt = 1 ∧ (st g0).toInt = 1) ∧ ((kd f0).toInt = 6 ∧ (kd g0).toInt = 6) ∧ (0 ≤ (xs (6 * k9 + 3)).toInt ∧ (xs (6 * k9 + 3)).toInt ≤ 1000) ∧ ((tn f0).toInt = 0 ∧ (tn g0).toInt = 0)) (hmt : ¬ mtF (kd f0).toInt (nN (mn f0)) (cF40 cx f0) (cF40 cy f0) (kd g0).toInt (nN (mn g0)) (cF40 cx g0) (cF40 cy g0)) (hfar : ∀ u d : Nat, 1 ≤ d → IM (dcP (nN (mn f0)) (cF40 cx f0) (cF40 cy f0) (nN (mn g0)) (cF40 cx g0) (cF40 cy g0) (eO (kd g0).toInt (nN (mn g0))) (eO (kd f0).toInt (nN (mn f0))) 0) ((u : Nat) : Int) ((d : Nat) : Int) → (xs (6 * k9 + 3)).toInt * (xs (6 * k9 + 3)).toInt * ((d : Nat) : Int) < ((u : Nat) : Int)) (hnext : ∀ (cp1 cl1 U1 : Nat) (H : Heap) (locs : List Loc) (ls : Array Slot), lawI s dC dI cI cZ cF cO e0 mi x sl sh fa lw dr dx dy tg tx ty wy wx wz br bo aa ro za zw zx zy zg bq bp dq dp lv k0 (k9 + 1) cp1 cl1 U1 H → va_S (fun q : Nat => s.heap.size ≤ q) s.heap H locs → lv_has ls 4 [(3, .int (nI (6 * k9))), (2, .ref k0), (1, .ref x), (0, .ref b)] → W p l e room_1 s m #[Value.ref b] below meth c H locs (1000 + 1010 * (k9 + 1) + cp1 + 4 * cl1) (45000 + 8192 * cp1 + 512 * cl1 + U1) (lw_Z below #[Value.ref b] s) (F0 m 1081 ls [])) : W p l e room_1 s m #[Value.ref b] below meth c H locs (1000 + 1010 * k9 + cp + 4 * cl) (45000 + 8192 * cp + 512 * cl + U) (lw_Z below #[Value.ref b] s) (F0 m 481 ls []) := by
  obtain ⟨hP, hD⟩ := hPD
  obtain ⟨hx, hb, hr, hml, hown, hts1, hX, hbl, hlocks, hgv⟩ := id C0
  have hts : ∀ w9 ∈ ws0, w9.before #[Value.ref b] s = true := fun w9 h => hts1 w9 (List.mem_filter.mp h).1
  have hA : ∀ q : Nat, s.heap.size ≤ q → (fun q : Nat => s.heap.size ≤ q) q := fun _ h => h
  have hbA : ¬ (fun q : Nat => s.heap.size ≤ q) b := Nat.not_le.mpr hbl
  have hXN := hXL.1
  have hK3 := hK.sub [0, 1, 2] rfl
  obtain ⟨hm0, hm19, hm20, hm21⟩ := hM
  have hpo := shB_po hB
  have hK512 : k9 + 1 ≤ 512 := r9_k hk9 hL9
  have hwfS := hI.1.1
  have hbdC := hI.1.2.2.1
  have hT0 := hI.1.2.2.2
  have hd9 := hpo.1
  have h200t : ∀ t, bs ≤ t → t ≤ T → FT t ≤ 200 := fun t t1 t2 => Nat.le_trans (hpo.2.1 t T t1 t2 (Nat.le_refl _)) hd9.2.2.2.2
  have h200f : ft ≤ 200 := (by rw [hd9.2.2.2.1]; exact h200t dn hd9.1 hd9.2.1)
  have hrkA : ∀ q, lvF ft st tn q → 0 ≤ (rk q).toInt ∧ (rk q).toInt ≤ 9 := fun q hq => (hI.1.2.1 q (Nat.lt_of_lt_of_le hq.1 (by rw [hd9.2.2.2.1]; exact hpo.2.1 dn T hd9.1 hd9.2.1 (Nat.le_refl _)))).1
  have hwdA : ∀ q, q < ft → 0 ≤ (wd q).toInt ∧ (wd q).toInt ≤ 100 := fun q hq => (hI.1.2.1 q (Nat.lt_of_lt_of_le hq (by rw [hd9.2.2.2.1]; exact hpo.2.1 dn T hd9.1 hd9.2.1 (Nat.le_refl _)))).2
  have hcp5 := INV_cp hI (Nat.le_of_succ_le hK512)
  have hcp1 := hI.2.2.1.2.1
  have hcnt := hI.2.2.2.1
  have hlst := hI.2.2.2.2
  have hlb := mul_514 (a := Sn) (b := C) (r9_s hcnt.2.1 hK512).2.1
  have hftA := bdC_F hbdC
  have hrm := room_c (Sn := Sn) (AD := AD) (C := C) (c := cp) (cl := cl) (U := U) (r9_s hcnt.2.1 hK512).1 hI.2.2.1.2.2.2.2.2 hlst.2.2.2.1 hU
  have hrc : 1000 + 1010 * k9 + cp + 4 * cl ≤ 600000 := (by omega)
  have hst := hok.1.1
  have htn := hok.2.2.2.1
  have hg9 : g0 < ft := hg0
  have hlv : lvF ft st tn f0 := ⟨hf0, hst, htn⟩
  have hccC := Nat.le_trans (smN_q (c := cc) (q := f0) (n := 200) (by omega)) hcnt.1
  have hwm := wfS_wf hwfS f0 hlv
  have hsm9 := wfS_sm hwfS hlv
  have hccf := hbdC.2 f0 hf0 htn
  have hlg : lvF ft st tn g0 := ⟨hg9, hok.1.2, hok.2.2.2.2⟩
  have hwg := wfS_wf hwfS g0 hlg
  refine la_9_1 l C0 hk9 hL9 hS hl (hv1) (hv2) (rfl) ?_
  obtain ⟨hPc, hDc, hFc⟩ := zt_17 hP hD hS hA
  refine zcall (st1 := [.int (-1)]) (va_runV (As := [.int (nI f0), .int (nI g0), .int (xs (6 * k9 + 3))]) (rest := []) ⟨hx, hb, hml, hown, hts⟩ (k_join_n l dC dI cI cZ cF H.size cO e0 mi x sh lw ro bq bp dq dp lv sl (nI bs) ul su ea mc9 fa FA bs dn T ft FT V VX VY tn rk wd tw pa pb wh of9 we kd st gb it mn cx cy L f f0 g0 dr tg wy br bo aa dx dy nd 40 P Q rd c1 c2 c3 c4 y1 y2 (xs (6 * k9 + 3)) (jlo cx f0 (nN (mn f0)) g0 (nN (mn g0))) (jlo cy f0 (nN (mn f0)) g0 (nN (mn g0))) (jhi cx f0 (nN (mn f0)) g0 (nN (mn g0))) (jhi cy f0 (nN (mn f0)) g0 (nN (mn g0))) (hB) (hf0) (hok.2.2.2.1) (hg0) (hok.2.2.2.2) (hgf) (hok.1.1) (hok.1.2) (hok.2.1.1) (hok.2.1.2) (hok.2.2.1) (wfS_wf hwfS) (wfS_kn hwfS) (by first | decide | omega) (rfl) (rfl) (rfl) (rfl) (fun g => g.1 ⟨hmt, hfar⟩)) (csV_261 hts rfl rfl ⟨Nat.le_of_ble_eq_true rfl, Nat.le_of_ble_eq_true rfl⟩) (zPVL (q0 := 0) (ci := 8) hPc hDc hK hXL hS hFc rfl rfl) rfl rfl hl.1 rfl (lv_room (Nat.le_of_ble_eq_true rfl)) dL_law_497 ⟨hrc, hrm⟩) hS hFc hFc rfl (fun t H locs ht hB hk1 hS => ?_)
  refine ex12 hB (fun q_1 q_2 q_3 q_4 q_5 q_6 q_7 q_8 q_9 q_10 q_11 q_12 hB0 => ?_)
  clear hB
  obtain ⟨hP1, hD1⟩ := hB0
  rw [ht] at hP1
  obtain ⟨hP, hD⟩ := zs_17 (u0 := (oc8 x (.ref sh) (.ref lw) (.ref ro) (.ref bq) (.ref bp) (.ref dq) (.ref dp) (.ref lv) (.ref sl) (nI dn) (nI bs) q_1 q_2)) (u5 := (oc6 dr (.ref dx) (.ref dy) (nI q_3) q_6)) (u6 := (oa dx cI 40 q_4)) (u7 := (oa dy cI 40 q_5)) (u23 := (oc0 bq q_7 q_8 q_9 q_10)) (u25 := (oc2 dq q_11 q_12)) hP hD hk1 hFc hP1 hD1
  clear hk1 hPc hDc hFc hP1 hD1 ht
  refine lv_pop hx hb dL_law_500 rfl ?_
  refine la_9_2 l C0 hk9 hL9 hS hl (hv1) (hv2) (rfl) ?_
  obtain ⟨hPc, hDc, hFc⟩ := zt_7 hP hD hS hA
  refine zcall (st1 := [.int (-1)]) (va_runV (As := [.int (nI f0), .int (nI g0), .int (xs (6 * k9 + 3))]) (rest := []) ⟨hx, hb, hml, hown, hts⟩ (k_M_join_4 l dC dI cI cZ cF H.size k0 a (upd I0 26 (nI ln)) J0 f0 (nN (mn f0)) g0 (nN (mn g0)) ft (xs (6 * k9 + 3)) st tn kd mn cx cy S0 (hm0) (h200f) (by first | with_reducible assumption | omega) (hwm.1) (hwm.2.1) (hwm.2.2) (by first | with_reducible assumption | omega) (hwg.1) (hwg.2.1) (hwg.2.2) (hf0) (hg9) (hok) (hmt) (eO_6 hok.2.1.1 hwm.2.1.1) (eO_6 hok.2.1.2 hwg.2.1.1) (hfar)) (csV_262 hts rfl rfl ⟨Nat.le_of_ble_eq_true rfl, Nat.le_of_ble_eq_true rfl⟩) (zPV2 (q0 := 0) (ci := 9) hPc hDc hK3 hXN rfl rfl) rfl rfl hl.1 rfl (lv_room (Nat.le_of_ble_eq_true rfl)) dL_law_517 ⟨hrc, hrm⟩) hS hFc hFc rfl (fun t H locs ht hB hk1 hS => ?_)
  obtain ⟨uq, dq9, S1, hP1, hD1⟩ := hB
  rw [ht] at hP1
  obtain ⟨hP, hD⟩ := zs_7 (u28 := (om k0 a (upd (upd (upd I0 14 4) 15 (I0 15)) 26 (nI ln)) (vp_updL (vp_updL J0 48 (jI ((uq : Nat) : Int))) 49 (jI ((dq9 : Nat) : Int))))) (u53 := (oa (a 32) cI 8 S1)) hP hD hk1 hFc hP1 hD1
  clear hk1 hPc hDc hFc hP1 hD1 ht
  refine lv_pop hx hb dL_law_520 rfl ?_
  refine lv_goto (tgt := 1081) hx hb dL_law_521 rfl ?_
  obtain ⟨hP9, hD9⟩ := And.intro hP hD
  refine W.widen (k := 1000 + 1010 * (k9 + 1) + cp + 4 * cl) (n := 45000 + 8192 * cp + 512 * cl + U) (by first | exact wdK | omega) (by first | exact Nat.le_refl _ | omega) ?_
  have e26 : upd (upd (upd (upd I0 14 4) 15 (I0 15)) 26 (nI ln)) 26 (nI ln) = (upd (upd (upd I0 14 4) 15 (I0 15)) 26 (nI ln)) := up_same rfl
  exact hnext cp cl U H locs ls (lawI_in L f FA ea q_3 nt nw q_1 q_2 mc9 q_6 rt rw q_4 q_5 TX TY WX WY AR b1 b2 b3 b4 b5 b6 b7 b8 q_7 q_8 q_9 q_10 a1 a2 a3 a4 nv RA WT EX EY GR LV q_11 q_12 y3 y4 a (upd (upd (upd I0 14 4) 15 (I0 15)) 26 (nI ln)) (vp_updL (vp_updL J0 48 (jI ((uq : Nat) : Int))) 49 (jI ((dq9 : Nat) : Int))) kd st gb it pa pb rk wd tw tn mn cx cy sa shs wh of9 we la lb lc ld P0 Q0 S1 ox oy mt wi ins T0 fl mk jx jy gr bs dn T ft Sn AD C ln FT cc W9 V VX VY (by rw [e26]; exact hP9) (by rw [e26]; exact hD9) (hB) (INV_K hI) ⟨hm0, hm19, hm20, hm21⟩ (by first | exact hU | omega)) hS (lv_sub hl [0, 1, 2, 3] rfl)
set_option maxHeartbeats 4000000 in
set_option maxRecDepth 100000 in
theorem lc_join_n7 {p : Program} {e : Env} {s : State} {m : MethodId} {below : List Frame} {meth : Method} {c : Code} (l : Launch) {b L9 : Nat} {xs : Nat → Int32} (C0 : lw_At p s m meth c b L9 xs) (dC : Nat → ClassId) (dI : Nat → Nat → Nat) (cI cZ cF cO : ClassId) (e0 mi : Nat) (x sl sh fa lw dr dx dy tg tx ty wy wx wz br bo aa ro za zw zx zy zg bq bp dq dp lv k0 : Nat) (hK : va_K (dC, dI) classes (zTyO cI cZ cF cO) s) (hXL : zXL e0 mi (fun q : Nat => s.heap.size ≤ q) s) (L : List Nat) (f : Nat → va_E) (FA : Nat → Option Nat) (ea : Nat) (nd : Nat) (nt : Nat) (nw : Nat) (ul : Int32) (su : Int32) (mc9 : Int32) (rd : Int32) (rt : Int32) (rw : Int32) (P : Nat → Int32) (Q : Nat → Int32) (TX : Nat → Int32) (TY : Nat → Int32) (WX : Nat → Int32) (WY : Nat → Int32) (AR : Nat → Int32) (b1 : Int32) (b2 : Int32) (b3 : Int32) (b4 : Int32) (b5 : Int32) (b6 : Int32) (b7 : Int32) (b8 : Int32) (c1 : Int32) (c2 : Int32) (c3 : Int32) (c4 : Int32) (a1 : Int32) (a2 : Int32) (a3 : Int32) (a4 : Int32) (nv : Int32) (RA : Nat → Option Nat) (WT : Nat → Int32) (EX : Nat → Int32) (EY : Nat → Int32) (GR : Nat → Int32) (LV : Nat → Int32) (y1 : Int64) (y2 : Int64) (y3 : Int64) (y4 : Int64) (a : Nat → Nat) (I0 : Nat → Int32) (J0 : Nat → Int64) (kd : Nat → Int32) (st : Nat → Int32) (gb : Nat → Int32) (it : Nat → Int32) (pa : Nat → Int32) (pb : Nat → Int32) (rk : Nat → Int32) (wd : Nat → Int32) (tw : Nat → Int32) (tn : Nat → Int32) (mn : Nat → Int32) (cx : Nat → Int32) (cy : Nat → Int32) (sa : Nat → Int32) (shs : Nat → Int32) (wh : Nat → Int32) (of9 : Nat → Int32) (we : Nat → Int32) (la : Nat → Int32) (lb : Nat → Int32) (lc : Nat → Int32) (ld : Nat → Int32) (P0 : Nat → Int32) (Q0 : Nat → Int32) (S0 : Nat → Int32) (ox : Nat → Int32) (oy : Nat → Int32) (mt : Nat → Int32) (wi : Nat → Int32) (ins : Nat → Int32) (T0 : Nat → Int32) (fl : Nat → Int32) (mk : Nat → Int32) (jx : Nat → Int32) (jy : Nat → Int32) (gr : Nat → Int32) (bs : Nat) (dn : Nat) (T : Nat) (ft : Nat) (Sn : Nat) (AD : Nat) (C : Nat) (ln : Nat) (FT : Nat → Nat) (cc : Nat → Nat) (W9 : Nat → Nat) (V : Nat → Nat → Nat → Int32) (VX : Nat → Nat → Int32) (VY : Nat → Nat → Int32) (cp cl U k9 : Nat) (hk9 : 6 * k9 + 6 ≤ L9) (hL9 : L9 ≤ 3072) (f0 : Nat) (g0 : Nat) {H : Heap} {locs : List Loc} {ls : Array Slot} (hPD : zPD (dC, dI) classes (fun q : Nat => s.heap.size ≤ q) (((oc8 x (.ref sh) (.ref lw) (.ref ro) (.ref bq) (.ref bp) (.ref dq) (.ref dp) (.ref lv) (.ref sl) (nI dn) (nI bs) ul su) :: (oc10 sl mc9 (.ref ea) (nI T)) :: (oc7 sh (.ref fa) (nI ft)) :: (oq fa cF 200 FA) :: (oc3 lw (.ref dr) (.ref tg) (.ref wy) (.ref br) (.ref bo) (.ref aa)) :: (oc6 dr (.ref dx) (.ref dy) (nI nd) rd) :: (oa dx cI 40 P) :: (oa dy cI 40 Q) :: (oc6 tg (.ref tx) (.ref ty) (nI nt) rt) :: (oa tx cI 3 TX) :: (oa ty cI 3 TY) :: (oc6 wy (.ref wx) (.ref wz) (nI nw) rw) :: (oa wx cI 2 WX) :: (oa wz cI 2 WY) :: (oc0 br b1 b2 b3 b4) :: (oc0 bo b5 b6 b7 b8) :: (oa aa cI 40 AR) :: (oc5 ro (.ref za) (.ref zw) (.ref zx) (.ref zy) (.ref zg) nv) :: (oq za cF 200 RA) :: (oa zw cI 200 WT) :: (oa zx cI 400 EX) :: (oa zy cI 400 EY) :: (oa zg cI 400 GR) :: (oc0 bq c1 c2 c3 c4) :: (oc0 bp a1 a2 a3 a4) :: (oc2 dq y1 y2) :: (oc2 dp y3 y4) :: (oa lv cZ 200 LV) :: (om k0 a (upd I0 26 (nI ln)) J0) :: (oa (a 1) cI 201 kd) :: (oa (a 5) cI 201 st) :: (oa (a 7) cI 201 gb) :: (oa (a 10) cI 201 it) :: (oa (a 8) cI 201 pa) :: (oa (a 9) cI 201 pb) :: (oa (a 2) cI 201 rk) :: (oa (a 3) cI 201 wd) :: (oa (a 4) cI 201 tw) :: (oa (a 6) cZ 201 tn) :: (oa (a 11) cI 201 mn) :: (oa (a 12) cI 8040 cx) :: (oa (a 13) cI 8040 cy) :: (oa (a 27) cI 516 sa) :: (oa (a 28) cI (4096 * cp) shs) :: (oa (a 16) cI 514 wh) :: (oa (a 17) cI 514 of9) :: (oa (a 18) cI 514 we) :: (oa (a 22) cI (64 * cl) la) :: (oa (a 23) cI (64 * cl) lb) :: (oa (a 24) cI (64 * cl) lc) :: (oa (a 25) cI (64 * cl) ld) :: (oa (a 29) cI 42 P0) :: (oa (a 30) cI 42 Q0) :: (oa (a 32) cI 8 S0) :: (oa (a 33) cI 42 ox) :: (oa (a 34) cI 42 oy) :: (oa (a 37) cZ 201 mt) :: (oa (a 38) cZ 201 wi) :: (oa (a 39) cZ 8040 ins) :: (oa (a 40) cI 6 T0) :: (oa (a 43) cZ 40 fl) :: (oa (a 50) cZ 201 mk) :: (oa (a 51) cI 402 jx) :: (oa (a 52) cI 402 jy) :: (oa (a 53) cI 402 gr) :: []) ++ va_pl L f) H) (hS : va_S (fun q : Nat => s.heap.size ≤ q) s.heap H locs) (hl : lv_has ls 4 [(3, .int (nI (6 * k9))), (2, .ref k0), (1, .ref x), (0, .ref b)]) (hB : shB cI cO L f e0 FA ea bs dn T ft FT V VX VY tn rk wd tw pa pb wh of9 we kd st gb it mn cx cy) (hI : INV k9 Sn AD C cc W9 bs T ft cp ln cl FT V VX VY tn rk wd tw pa pb kd st it mn cx cy sa shs lb lc) (hM : I0 0 = nI ft ∧ I0 19 = nI dn ∧ I0 20 = nI (T - dn) ∧ I0 21 = nI bs) (hU : U ≤ Sn * (28 * (AD + C) + 1000) + 200 * (AD + C)) (hf0 : f0 < ft) (hv1 : xs (6 * k9 + 1) = nI f0) (hg0 : g0 < ft) (hv2 : xs (6 * k9 + 2) = nI g0) (hgf : g0 ≠ f0) (hok : ((st f0).toInt = 1 ∧ (st g0).toInt = 1) ∧ ((kd f0).toInt = 6 ∧ (kd g0).toInt = 6) ∧ (0 ≤ (xs (6 * k9 + 3)).toInt ∧ (xs (6 * k9 + 3)).toInt ≤ 1000) ∧ ((tn f0).toInt = 0 ∧ (tn g0).toInt = 0)) (hnf : ¬ (¬ mtF (kd f0).toInt (nN (mn f0)) (cF40 cx f0) (cF40 cy f0) (kd g0).toInt (nN (mn g0)) (cF40 cx g0) (cF40 cy g0) ∧ ∀ u d : Nat, 1 ≤ d → IM (dcP (nN (mn f0)) (cF40 cx f0) (cF40 cy f0) (nN (mn g0)) (cF40 cx g0) (cF40 cy g0) (eO (kd g0).toInt (nN (mn g0))) (eO (kd f0).toInt (nN (mn f0))) 0) ((u : Nat) : Int) ((d : Nat) : Int) → (xs (6 * k9 + 3)).toInt * (xs (6 * k9 + 3)).toInt * ((d : Nat) : Int) < ((u : Nat) : Int))) (hno : ¬ jFr ft st tn (upd kd 200 6) (upd mn 200 4) (bxX 200 (jlo cx f0 (nN (mn f0)) g0 (nN (mn g0))) (jhi cx f0 (nN (mn f0)) g0 (nN (mn g0))) 4 cx) (bxY 200 (jlo cy f0 (nN (mn f0)) g0 (nN (mn g0))) (jhi cy f0 (nN (mn f0)) g0 (nN (mn g0))) 4 cy) f0 g0 ft) (hnext : ∀ (cp1 cl1 U1 : Nat) (H : Heap) (locs : List Loc) (ls : Array Slot), lawI s dC dI cI cZ cF cO e0 mi x sl sh fa lw dr dx dy tg tx ty wy wx wz br bo aa ro za zw zx zy zg bq bp dq dp lv k0 (k9 + 1) cp1 cl1 U1 H → va_S (fun q : Nat => s.heap.size ≤ q) s.heap H locs → lv_has ls 4 [(3, .int (nI (6 * k9))), (2, .ref k0), (1, .ref x), (0, .ref b)] → W p l e room_1 s m #[Value.ref b] below meth c H locs (1000 + 1010 * (k9 + 1) + cp1 + 4 * cl1) (45000 + 8192 * cp1 + 512 * cl1 + U1) (lw_Z below #[Value.ref b] s) (F0 m 1081 ls [])) : W p l e room_1 s m #[Value.ref b] below meth c H locs (1000 + 1010 * k9 + cp + 4 * cl) (45000 + 8192 * cp + 512 * cl + U) (lw_Z below #[Value.ref b] s) (F0 m 481 ls []) := by
  obtain ⟨hP, hD⟩ := hPD
  obtain ⟨hx, hb, hr, hml, hown, hts1, hX, hbl, hlocks, hgv⟩ := id C0
  have hts : ∀ w9 ∈ ws0, w9.before #[Value.ref b] s = true := fun w9 h => hts1 w9 (List.mem_filter.mp h).1
  have hA : ∀ q : Nat, s.heap.size ≤ q → (fun q : Nat => s.heap.size ≤ q) q := fun _ h => h
  have hbA : ¬ (fun q : Nat => s.heap.size ≤ q) b := Nat.not_le.mpr hbl
  have hXN := hXL.1
  have hK3 := hK.sub [0, 1, 2] rfl
  obtain ⟨hm0, hm19, hm20, hm21⟩ := hM
  have hpo := shB_po hB
  have hK512 : k9 + 1 ≤ 512 := r9_k hk9 hL9
  have hwfS := hI.1.1
  have hbdC := hI.1.2.2.1
  have hT0 := hI.1.2.2.2
  have hd9 := hpo.1
  have h200t : ∀ t, bs ≤ t → t ≤ T → FT t ≤ 200 := fun t t1 t2 => Nat.le_trans (hpo.2.1 t T t1 t2 (Nat.le_refl _)) hd9.2.2.2.2
  have h200f : ft ≤ 200 := (by rw [hd9.2.2.2.1]; exact h200t dn hd9.1 hd9.2.1)
  have hrkA : ∀ q, lvF ft st tn q → 0 ≤ (rk q).toInt ∧ (rk q).toInt ≤ 9 := fun q hq => (hI.1.2.1 q (Nat.lt_of_lt_of_le hq.1 (by rw [hd9.2.2.2.1]; exact hpo.2.1 dn T hd9.1 hd9.2.1 (Nat.le_refl _)))).1
  have hwdA : ∀ q, q < ft → 0 ≤ (wd q).toInt ∧ (wd q).toInt ≤ 100 := fun q hq => (hI.1.2.1 q (Nat.lt_of_lt_of_le hq (by rw [hd9.2.2.2.1]; exact hpo.2.1 dn T hd9.1 hd9.2.1 (Nat.le_refl _)))).2
  have hcp5 := INV_cp hI (Nat.le_of_succ_le hK512)
  have hcp1 := hI.2.2.1.2.1
  have hcnt := hI.2.2.2.1
  have hlst := hI.2.2.2.2
  have hlb := mul_514 (a := Sn) (b := C) (r9_s hcnt.2.1 hK512).2.1
  have hftA := bdC_F hbdC
  have hrm := room_c (Sn := Sn) (AD := AD) (C := C) (c := cp) (cl := cl) (U := U) (r9_s hcnt.2.1 hK512).1 hI.2.2.1.2.2.2.2.2 hlst.2.2.2.1 hU
  have hrc : 1000 + 1010 * k9 + cp + 4 * cl ≤ 600000 := (by omega)
  have hst := hok.1.1
  have htn := hok.2.2.2.1
  have hg9 : g0 < ft := hg0
  have hlv : lvF ft st tn f0 := ⟨hf0, hst, htn⟩
  have hccC := Nat.le_trans (smN_q (c := cc) (q := f0) (n := 200) (by omega)) hcnt.1
  have hwm := wfS_wf hwfS f0 hlv
  have hsm9 := wfS_sm hwfS hlv
  have hccf := hbdC.2 f0 hf0 htn
  have hlg : lvF ft st tn g0 := ⟨hg9, hok.1.2, hok.2.2.2.2⟩
  have hwg := wfS_wf hwfS g0 hlg
  refine la_9_1 l C0 hk9 hL9 hS hl (hv1) (hv2) (rfl) ?_
  obtain ⟨hPc, hDc, hFc⟩ := zt_17 hP hD hS hA
  refine zcall (st1 := [.int (-1)]) (va_runV (As := [.int (nI f0), .int (nI g0), .int (xs (6 * k9 + 3))]) (rest := []) ⟨hx, hb, hml, hown, hts⟩ (k_join_n l dC dI cI cZ cF H.size cO e0 mi x sh lw ro bq bp dq dp lv sl (nI bs) ul su ea mc9 fa FA bs dn T ft FT V VX VY tn rk wd tw pa pb wh of9 we kd st gb it mn cx cy L f f0 g0 dr tg wy br bo aa dx dy nd 40 P Q rd c1 c2 c3 c4 y1 y2 (xs (6 * k9 + 3)) (jlo cx f0 (nN (mn f0)) g0 (nN (mn g0))) (jlo cy f0 (nN (mn f0)) g0 (nN (mn g0))) (jhi cx f0 (nN (mn f0)) g0 (nN (mn g0))) (jhi cy f0 (nN (mn f0)) g0 (nN (mn g0))) (hB) (hf0) (hok.2.2.2.1) (hg0) (hok.2.2.2.2) (hgf) (hok.1.1) (hok.1.2) (hok.2.1.1) (hok.2.1.2) (hok.2.2.1) (wfS_wf hwfS) (wfS_kn hwfS) (by first | decide | omega) (rfl) (rfl) (rfl) (rfl) (fun g => hno g.2.1)) (csV_261 hts rfl rfl ⟨Nat.le_of_ble_eq_true rfl, Nat.le_of_ble_eq_true rfl⟩) (zPVL (q0 := 0) (ci := 8) hPc hDc hK hXL hS hFc rfl rfl) rfl rfl hl.1 rfl (lv_room (Nat.le_of_ble_eq_true rfl)) dL_law_497 ⟨hrc, hrm⟩) hS hFc hFc rfl (fun t H locs ht hB hk1 hS => ?_)
  refine ex12 hB (fun q_1 q_2 q_3 q_4 q_5 q_6 q_7 q_8 q_9 q_10 q_11 q_12 hB0 => ?_)
  clear hB
  obtain ⟨hP1, hD1⟩ := hB0
  rw [ht] at hP1
  obtain ⟨hP, hD⟩ := zs_17 (u0 := (oc8 x (.ref sh) (.ref lw) (.ref ro) (.ref bq) (.ref bp) (.ref dq) (.ref dp) (.ref lv) (.ref sl) (nI dn) (nI bs) q_1 q_2)) (u5 := (oc6 dr (.ref dx) (.ref dy) (nI q_3) q_6)) (u6 := (oa dx cI 40 q_4)) (u7 := (oa dy cI 40 q_5)) (u23 := (oc0 bq q_7 q_8 q_9 q_10)) (u25 := (oc2 dq q_11 q_12)) hP hD hk1 hFc hP1 hD1
  clear hk1 hPc hDc hFc hP1 hD1 ht
  refine lv_pop hx hb dL_law_500 rfl ?_
  refine la_9_2 l C0 hk9 hL9 hS hl (hv1) (hv2) (rfl) ?_
  obtain ⟨hPc, hDc, hFc⟩ := zt_7 hP hD hS hA
  refine zcall (st1 := [.int (-1)]) (va_runV (As := [.int (nI f0), .int (nI g0), .int (xs (6 * k9 + 3))]) (rest := []) ⟨hx, hb, hml, hown, hts⟩ (k_M_join_7 l dC dI cI cZ cF H.size k0 a (upd I0 26 (nI ln)) J0 f0 (nN (mn f0)) g0 (nN (mn g0)) ft (xs (6 * k9 + 3)) st tn kd mn cx cy S0 (hm0) (h200f) (by first | with_reducible assumption | omega) (hwm.1) (hwm.2.1) (hwm.2.2) (by first | with_reducible assumption | omega) (hwg.1) (hwg.2.1) (hwg.2.2) (hf0) (hg9) (hok) (eO_6 hok.2.1.1 hwm.2.1.1) (eO_6 hok.2.1.2 hwg.2.1.1) (wfS_wf hwfS) (hnf) (hno)) (csV_262 hts rfl rfl ⟨Nat.le_of_ble_eq_true rfl, Nat.le_of_ble_eq_true rfl⟩) (zPV2 (q0 := 0) (ci := 9) hPc hDc hK3 hXN rfl rfl) rfl rfl hl.1 rfl (lv_room (Nat.le_of_ble_eq_true rfl)) dL_law_517 ⟨hrc, hrm⟩) hS hFc hFc rfl (fun t H locs ht hB hk1 hS => ?_)
  refine ex7 hB (fun uq dq9 S1 x1 x2 x3 x4 hB0 => ?_)
  clear hB
  obtain ⟨ej1, ej2, ej3, ej4, hP1, hD1⟩ := hB0
  rw [ht] at hP1
  obtain ⟨hP, hD⟩ := zs_7 (u28 := (om k0 a (upd (upd (upd (upd (upd (upd (upd I0 14 7) 15 (I0 15 + 1)) 26 (nI ln)) 44 x1) 45 x2) 46 x3) 47 x4) (vp_updL (vp_updL J0 48 (jI ((uq : Nat) : Int))) 49 (jI ((dq9 : Nat) : Int))))) (u29 := (oa (a 1) cI 201 (upd kd 200 6))) (u39 := (oa (a 11) cI 201 (upd mn 200 4))) (u40 := (oa (a 12) cI 8040 (bxX 200 (x1) (x3) 4 cx))) (u41 := (oa (a 13) cI 8040 (bxY 200 (x2) (x4) 4 cy))) (u53 := (oa (a 32) cI 8 S1)) hP hD hk1 hFc hP1 hD1
  clear hk1 hPc hDc hFc hP1 hD1 ht
  refine lv_pop hx hb dL_law_520 rfl ?_
  refine lv_goto (tgt := 1081) hx hb dL_law_521 rfl ?_
  obtain ⟨hP9, hD9⟩ := And.intro hP hD
  refine W.widen (k := 1000 + 1010 * (k9 + 1) + cp + 4 * cl) (n := 45000 + 8192 * cp + 512 * cl + U) (by first | exact wdK | omega) (by first | exact Nat.le_refl _ | omega) ?_
  have e26 : upd (upd (upd (upd (upd (upd (upd (upd I0 14 7) 15 (I0 15 + 1)) 26 (nI ln)) 44 x1) 45 x2) 46 x3) 47 x4) 26 (nI ln) = (upd (upd (upd (upd (upd (upd (upd I0 14 7) 15 (I0 15 + 1)) 26 (nI ln)) 44 x1) 45 x2) 46 x3) 47 x4) := up_same rfl
  exact hnext cp cl U H locs ls (lawI_in L f FA ea q_3 nt nw q_1 q_2 mc9 q_6 rt rw q_4 q_5 TX TY WX WY AR b1 b2 b3 b4 b5 b6 b7 b8 q_7 q_8 q_9 q_10 a1 a2 a3 a4 nv RA WT EX EY GR LV q_11 q_12 y3 y4 a (upd (upd (upd (upd (upd (upd (upd I0 14 7) 15 (I0 15 + 1)) 26 (nI ln)) 44 x1) 45 x2) 46 x3) 47 x4) (vp_updL (vp_updL J0 48 (jI ((uq : Nat) : Int))) 49 (jI ((dq9 : Nat) : Int))) (upd kd 200 6) st gb it pa pb rk wd tw tn (upd mn 200 4) (bxX 200 (x1) (x3) 4 cx) (bxY 200 (x2) (x4) 4 cy) sa shs wh of9 we la lb lc ld P0 Q0 S1 ox oy mt wi ins T0 fl mk jx jy gr bs dn T ft Sn AD C ln FT cc W9 V VX VY (by rw [e26]; exact hP9) (by rw [e26]; exact hD9) (shB_cg hB (wfS_mn hwfS) (ag_200 h200f)) (INV_K (INV_cg (gb := gb) (gb1 := gb) hI (ag_200 h200f) (fun q hq g => by rw [upo9 (by omega)]; exact hT0 q hq g))) ⟨hm0, hm19, hm20, hm21⟩ (by first | exact hU | omega)) hS (lv_sub hl [0, 1, 2, 3] rfl)
set_option maxHeartbeats 4000000 in
set_option maxRecDepth 100000 in
theorem lc_join_n8 {p : Program} {e : Env} {s : State} {m : MethodId} {below : List Frame} {meth : Method} {c : Code} (l : Launch) {b L9 : Nat} {xs : Nat → Int32} (C0 : lw_At p s m meth c b L9 xs) (dC : Nat → ClassId) (dI : Nat → Nat → Nat) (cI cZ cF cO : ClassId) (e0 mi : Nat) (x sl sh fa lw dr dx dy tg tx ty wy wx wz br bo aa ro za zw zx zy zg bq bp dq dp lv k0 : Nat) (hK : va_K (dC, dI) classes (zTyO cI cZ cF cO) s) (hXL : zXL e0 mi (fun q : Nat => s.heap.size ≤ q) s) (L : List Nat) (f : Nat → va_E) (FA : Nat → Option Nat) (ea : Nat) (nd : Nat) (nt : Nat) (nw : Nat) (ul : Int32) (su : Int32) (mc9 : Int32) (rd : Int32) (rt : Int32) (rw : Int32) (P : Nat → Int32) (Q : Nat → Int32) (TX : Nat → Int32) (TY : Nat → Int32) (WX : Nat → Int32) (WY : Nat → Int32) (AR : Nat → Int32) (b1 : Int32) (b2 : Int32) (b3 : Int32) (b4 : Int32) (b5 : Int32) (b6 : Int32) (b7 : Int32) (b8 : Int32) (c1 : Int32) (c2 : Int32) (c3 : Int32) (c4 : Int32) (a1 : Int32) (a2 : Int32) (a3 : Int32) (a4 : Int32) (nv : Int32) (RA : Nat → Option Nat) (WT : Nat → Int32) (EX : Nat → Int32) (EY : Nat → Int32) (GR : Nat → Int32) (LV : Nat → Int32) (y1 : Int64) (y2 : Int64) (y3 : Int64) (y4 : Int64) (a : Nat → Nat) (I0 : Nat → Int32) (J0 : Nat → Int64) (kd : Nat → Int32) (st : Nat → Int32) (gb : Nat → Int32) (it : Nat → Int32) (pa : Nat → Int32) (pb : Nat → Int32) (rk : Nat → Int32) (wd : Nat → Int32) (tw : Nat → Int32) (tn : Nat → Int32) (mn : Nat → Int32) (cx : Nat → Int32) (cy : Nat → Int32) (sa : Nat → Int32) (shs : Nat → Int32) (wh : Nat → Int32) (of9 : Nat → Int32) (we : Nat → Int32) (la : Nat → Int32) (lb : Nat → Int32) (lc : Nat → Int32) (ld : Nat → Int32) (P0 : Nat → Int32) (Q0 : Nat → Int32) (S0 : Nat → Int32) (ox : Nat → Int32) (oy : Nat → Int32) (mt : Nat → Int32) (wi : Nat → Int32) (ins : Nat → Int32) (T0 : Nat → Int32) (fl : Nat → Int32) (mk : Nat → Int32) (jx : Nat → Int32) (jy : Nat → Int32) (gr : Nat → Int32) (bs : Nat) (dn : Nat) (T : Nat) (ft : Nat) (Sn : Nat) (AD : Nat) (C : Nat) (ln : Nat) (FT : Nat → Nat) (cc : Nat → Nat) (W9 : Nat → Nat) (V : Nat → Nat → Nat → Int32) (VX : Nat → Nat → Int32) (VY : Nat → Nat → Int32) (cp cl U k9 : Nat) (hk9 : 6 * k9 + 6 ≤ L9) (hL9 : L9 ≤ 3072) (f0 : Nat) (g0 : Nat) {H : Heap} {locs : List Loc} {ls : Array Slot} (hPD : zPD (dC, dI) classes (fun q : Nat => s.heap.size ≤ q) (((oc8 x (.ref sh) (.ref lw) (.ref ro) (.ref bq) (.ref bp) (.ref dq) (.ref dp) (.ref lv) (.ref sl) (nI dn) (nI bs) ul su) :: (oc10 sl mc9 (.ref ea) (nI T)) :: (oc7 sh (.ref fa) (nI ft)) :: (oq fa cF 200 FA) :: (oc3 lw (.ref dr) (.ref tg) (.ref wy) (.ref br) (.ref bo) (.ref aa)) :: (oc6 dr (.ref dx) (.ref dy) (nI nd) rd) :: (oa dx cI 40 P) :: (oa dy cI 40 Q) :: (oc6 tg (.ref tx) (.ref ty) (nI nt) rt) :: (oa tx cI 3 TX) :: (oa ty cI 3 TY) :: (oc6 wy (.ref wx) (.ref wz) (nI nw) rw) :: (oa wx cI 2 WX) :: (oa wz cI 2 WY) :: (oc0 br b1 b2 b3 b4) :: (oc0 bo b5 b6 b7 b8) :: (oa aa cI 40 AR) :: (oc5 ro (.ref za) (.ref zw) (.ref zx) (.ref zy) (.ref zg) nv) :: (oq za cF 200 RA) :: (oa zw cI 200 WT) :: (oa zx cI 400 EX) :: (oa zy cI 400 EY) :: (oa zg cI 400 GR) :: (oc0 bq c1 c2 c3 c4) :: (oc0 bp a1 a2 a3 a4) :: (oc2 dq y1 y2) :: (oc2 dp y3 y4) :: (oa lv cZ 200 LV) :: (om k0 a (upd I0 26 (nI ln)) J0) :: (oa (a 1) cI 201 kd) :: (oa (a 5) cI 201 st) :: (oa (a 7) cI 201 gb) :: (oa (a 10) cI 201 it) :: (oa (a 8) cI 201 pa) :: (oa (a 9) cI 201 pb) :: (oa (a 2) cI 201 rk) :: (oa (a 3) cI 201 wd) :: (oa (a 4) cI 201 tw) :: (oa (a 6) cZ 201 tn) :: (oa (a 11) cI 201 mn) :: (oa (a 12) cI 8040 cx) :: (oa (a 13) cI 8040 cy) :: (oa (a 27) cI 516 sa) :: (oa (a 28) cI (4096 * cp) shs) :: (oa (a 16) cI 514 wh) :: (oa (a 17) cI 514 of9) :: (oa (a 18) cI 514 we) :: (oa (a 22) cI (64 * cl) la) :: (oa (a 23) cI (64 * cl) lb) :: (oa (a 24) cI (64 * cl) lc) :: (oa (a 25) cI (64 * cl) ld) :: (oa (a 29) cI 42 P0) :: (oa (a 30) cI 42 Q0) :: (oa (a 32) cI 8 S0) :: (oa (a 33) cI 42 ox) :: (oa (a 34) cI 42 oy) :: (oa (a 37) cZ 201 mt) :: (oa (a 38) cZ 201 wi) :: (oa (a 39) cZ 8040 ins) :: (oa (a 40) cI 6 T0) :: (oa (a 43) cZ 40 fl) :: (oa (a 50) cZ 201 mk) :: (oa (a 51) cI 402 jx) :: (oa (a 52) cI 402 jy) :: (oa (a 53) cI 402 gr) :: []) ++ va_pl L f) H) (hS : va_S (fun q : Nat => s.heap.size ≤ q) s.heap H locs) (hl : lv_has ls 4 [(3, .int (nI (6 * k9))), (2, .ref k0), (1, .ref x), (0, .ref b)]) (hB : shB cI cO L f e0 FA ea bs dn T ft FT V VX VY tn rk wd tw pa pb wh of9 we kd st gb it mn cx cy) (hI : INV k9 Sn AD C cc W9 bs T ft cp ln cl FT V VX VY tn rk wd tw pa pb kd st it mn cx cy sa shs lb lc) (hM : I0 0 = nI ft ∧ I0 19 = nI dn ∧ I0 20 = nI (T - dn) ∧ I0 21 = nI bs) (hU : U ≤ Sn * (28 * (AD + C) + 1000) + 200 * (AD + C)) (hf0 : f0 < ft) (hv1 : xs (6 * k9 + 1) = nI f0) (hg0 : g0 < ft) (hv2 : xs (6 * k9 + 2) = nI g0) (hgf : g0 ≠ f0) (hok : ((st f0).toInt = 1 ∧ (st g0).toInt = 1) ∧ ((kd f0).toInt = 6 ∧ (kd g0).toInt = 6) ∧ (0 ≤ (xs (6 * k9 + 3)).toInt ∧ (xs (6 * k9 + 3)).toInt ≤ 1000) ∧ ((tn f0).toInt = 0 ∧ (tn g0).toInt = 0)) (hnf : ¬ (¬ mtF (kd f0).toInt (nN (mn f0)) (cF40 cx f0) (cF40 cy f0) (kd g0).toInt (nN (mn g0)) (cF40 cx g0) (cF40 cy g0) ∧ ∀ u d : Nat, 1 ≤ d → IM (dcP (nN (mn f0)) (cF40 cx f0) (cF40 cy f0) (nN (mn g0)) (cF40 cx g0) (cF40 cy g0) (eO (kd g0).toInt (nN (mn g0))) (eO (kd f0).toInt (nN (mn f0))) 0) ((u : Nat) : Int) ((d : Nat) : Int) → (xs (6 * k9 + 3)).toInt * (xs (6 * k9 + 3)).toInt * ((d : Nat) : Int) < ((u : Nat) : Int))) (hfree : jFr ft st tn (upd kd 200 6) (upd mn 200 4) (bxX 200 (jlo cx f0 (nN (mn f0)) g0 (nN (mn g0))) (jhi cx f0 (nN (mn f0)) g0 (nN (mn g0))) 4 cx) (bxY 200 (jlo cy f0 (nN (mn f0)) g0 (nN (mn g0))) (jhi cy f0 (nN (mn f0)) g0 (nN (mn g0))) 4 cy) f0 g0 ft) (h8 : ft = 200) (hnext : ∀ (cp1 cl1 U1 : Nat) (H : Heap) (locs : List Loc) (ls : Array Slot), lawI s dC dI cI cZ cF cO e0 mi x sl sh fa lw dr dx dy tg tx ty wy wx wz br bo aa ro za zw zx zy zg bq bp dq dp lv k0 (k9 + 1) cp1 cl1 U1 H → va_S (fun q : Nat => s.heap.size ≤ q) s.heap H locs → lv_has ls 4 [(3, .int (nI (6 * k9))), (2, .ref k0), (1, .ref x), (0, .ref b)] → W p l e room_1 s m #[Value.ref b] below meth c H locs (1000 + 1010 * (k9 + 1) + cp1 + 4 * cl1) (45000 + 8192 * cp1 + 512 * cl1 + U1) (lw_Z below #[Value.ref b] s) (F0 m 1081 ls [])) : W p l e room_1 s m #[Value.ref b] below meth c H locs (1000 + 1010 * k9 + cp + 4 * cl) (45000 + 8192 * cp + 512 * cl + U) (lw_Z below #[Value.ref b] s) (F0 m 481 ls []) := by
  obtain ⟨hP, hD⟩ := hPD
  obtain ⟨hx, hb, hr, hml, hown, hts1, hX, hbl, hlocks, hgv⟩ := id C0
  have hts : ∀ w9 ∈ ws0, w9.before #[Value.ref b] s = true := fun w9 h => hts1 w9 (List.mem_filter.mp h).1
  have hA : ∀ q : Nat, s.heap.size ≤ q → (fun q : Nat => s.heap.size ≤ q) q := fun _ h => h
  have hbA : ¬ (fun q : Nat => s.heap.size ≤ q) b := Nat.not_le.mpr hbl
  have hXN := hXL.1
  have hK3 := hK.sub [0, 1, 2] rfl
  obtain ⟨hm0, hm19, hm20, hm21⟩ := hM
  have hpo := shB_po hB
  have hK512 : k9 + 1 ≤ 512 := r9_k hk9 hL9
  have hwfS := hI.1.1
  have hbdC := hI.1.2.2.1
  have hT0 := hI.1.2.2.2
  have hd9 := hpo.1
  have h200t : ∀ t, bs ≤ t → t ≤ T → FT t ≤ 200 := fun t t1 t2 => Nat.le_trans (hpo.2.1 t T t1 t2 (Nat.le_refl _)) hd9.2.2.2.2
  have h200f : ft ≤ 200 := (by rw [hd9.2.2.2.1]; exact h200t dn hd9.1 hd9.2.1)
  have hrkA : ∀ q, lvF ft st tn q → 0 ≤ (rk q).toInt ∧ (rk q).toInt ≤ 9 := fun q hq => (hI.1.2.1 q (Nat.lt_of_lt_of_le hq.1 (by rw [hd9.2.2.2.1]; exact hpo.2.1 dn T hd9.1 hd9.2.1 (Nat.le_refl _)))).1
  have hwdA : ∀ q, q < ft → 0 ≤ (wd q).toInt ∧ (wd q).toInt ≤ 100 := fun q hq => (hI.1.2.1 q (Nat.lt_of_lt_of_le hq (by rw [hd9.2.2.2.1]; exact hpo.2.1 dn T hd9.1 hd9.2.1 (Nat.le_refl _)))).2
  have hcp5 := INV_cp hI (Nat.le_of_succ_le hK512)
  have hcp1 := hI.2.2.1.2.1
  have hcnt := hI.2.2.2.1
  have hlst := hI.2.2.2.2
  have hlb := mul_514 (a := Sn) (b := C) (r9_s hcnt.2.1 hK512).2.1
  have hftA := bdC_F hbdC
  have hrm := room_c (Sn := Sn) (AD := AD) (C := C) (c := cp) (cl := cl) (U := U) (r9_s hcnt.2.1 hK512).1 hI.2.2.1.2.2.2.2.2 hlst.2.2.2.1 hU
  have hrc : 1000 + 1010 * k9 + cp + 4 * cl ≤ 600000 := (by omega)
  have hst := hok.1.1
  have htn := hok.2.2.2.1
  have hg9 : g0 < ft := hg0
  have hlv : lvF ft st tn f0 := ⟨hf0, hst, htn⟩
  have hccC := Nat.le_trans (smN_q (c := cc) (q := f0) (n := 200) (by omega)) hcnt.1
  have hwm := wfS_wf hwfS f0 hlv
  have hsm9 := wfS_sm hwfS hlv
  have hccf := hbdC.2 f0 hf0 htn
  have hlg : lvF ft st tn g0 := ⟨hg9, hok.1.2, hok.2.2.2.2⟩
  have hwg := wfS_wf hwfS g0 hlg
  refine la_9_1 l C0 hk9 hL9 hS hl (hv1) (hv2) (rfl) ?_
  obtain ⟨hPc, hDc, hFc⟩ := zt_17 hP hD hS hA
  refine zcall (st1 := [.int (-1)]) (va_runV (As := [.int (nI f0), .int (nI g0), .int (xs (6 * k9 + 3))]) (rest := []) ⟨hx, hb, hml, hown, hts⟩ (k_join_n l dC dI cI cZ cF H.size cO e0 mi x sh lw ro bq bp dq dp lv sl (nI bs) ul su ea mc9 fa FA bs dn T ft FT V VX VY tn rk wd tw pa pb wh of9 we kd st gb it mn cx cy L f f0 g0 dr tg wy br bo aa dx dy nd 40 P Q rd c1 c2 c3 c4 y1 y2 (xs (6 * k9 + 3)) (jlo cx f0 (nN (mn f0)) g0 (nN (mn g0))) (jlo cy f0 (nN (mn f0)) g0 (nN (mn g0))) (jhi cx f0 (nN (mn f0)) g0 (nN (mn g0))) (jhi cy f0 (nN (mn f0)) g0 (nN (mn g0))) (hB) (hf0) (hok.2.2.2.1) (hg0) (hok.2.2.2.2) (hgf) (hok.1.1) (hok.1.2) (hok.2.1.1) (hok.2.1.2) (hok.2.2.1) (wfS_wf hwfS) (wfS_kn hwfS) (by first | decide | omega) (rfl) (rfl) (rfl) (rfl) (fun g => absurd g.2.2 (by first | with_reducible assumption | omega))) (csV_261 hts rfl rfl ⟨Nat.le_of_ble_eq_true rfl, Nat.le_of_ble_eq_true rfl⟩) (zPVL (q0 := 0) (ci := 8) hPc hDc hK hXL hS hFc rfl rfl) rfl rfl hl.1 rfl (lv_room (Nat.le_of_ble_eq_true rfl)) dL_law_497 ⟨hrc, hrm⟩) hS hFc hFc rfl (fun t H locs ht hB hk1 hS => ?_)
  refine ex12 hB (fun q_1 q_2 q_3 q_4 q_5 q_6 q_7 q_8 q_9 q_10 q_11 q_12 hB0 => ?_)
  clear hB
  obtain ⟨hP1, hD1⟩ := hB0
  rw [ht] at hP1
  obtain ⟨hP, hD⟩ := zs_17 (u0 := (oc8 x (.ref sh) (.ref lw) (.ref ro) (.ref bq) (.ref bp) (.ref dq) (.ref dp) (.ref lv) (.ref sl) (nI dn) (nI bs) q_1 q_2)) (u5 := (oc6 dr (.ref dx) (.ref dy) (nI q_3) q_6)) (u6 := (oa dx cI 40 q_4)) (u7 := (oa dy cI 40 q_5)) (u23 := (oc0 bq q_7 q_8 q_9 q_10)) (u25 := (oc2 dq q_11 q_12)) hP hD hk1 hFc hP1 hD1
  clear hk1 hPc hDc hFc hP1 hD1 ht
  refine lv_pop hx hb dL_law_500 rfl ?_
  refine la_9_2 l C0 hk9 hL9 hS hl (hv1) (hv2) (rfl) ?_
  obtain ⟨hPc, hDc, hFc⟩ := zt_7 hP hD hS hA
  refine zcall (st1 := [.int (-1)]) (va_runV (As := [.int (nI f0), .int (nI g0), .int (xs (6 * k9 + 3))]) (rest := []) ⟨hx, hb, hml, hown, hts⟩ (k_M_join_8 l dC dI cI cZ cF H.size k0 a (upd I0 26 (nI ln)) J0 f0 (nN (mn f0)) g0 (nN (mn g0)) ft (xs (6 * k9 + 3)) st tn kd mn cx cy S0 (hm0) (h200f) (by first | with_reducible assumption | omega) (hwm.1) (hwm.2.1) (hwm.2.2) (by first | with_reducible assumption | omega) (hwg.1) (hwg.2.1) (hwg.2.2) (hf0) (hg9) (hok) (eO_6 hok.2.1.1 hwm.2.1.1) (eO_6 hok.2.1.2 hwg.2.1.1) (wfS_wf hwfS) (hnf) (hfree) (Or.inr h8)) (csV_262 hts rfl rfl ⟨Nat.le_of_ble_eq_true rfl, Nat.le_of_ble_eq_true rfl⟩) (zPV2 (q0 := 0) (ci := 9) hPc hDc hK3 hXN rfl rfl) rfl rfl hl.1 rfl (lv_room (Nat.le_of_ble_eq_true rfl)) dL_law_517 ⟨hrc, hrm⟩) hS hFc hFc rfl (fun t H locs ht hB hk1 hS => ?_)
  refine ex7 hB (fun uq dq9 S1 x1 x2 x3 x4 hB0 => ?_)
  clear hB
  obtain ⟨ej1, ej2, ej3, ej4, hP1, hD1⟩ := hB0
  rw [ht] at hP1
  obtain ⟨hP, hD⟩ := zs_7 (u28 := (om k0 a (upd (upd (upd (upd (upd (upd (upd I0 14 8) 15 (I0 15)) 26 (nI ln)) 44 x1) 45 x2) 46 x3) 47 x4) (vp_updL (vp_updL J0 48 (jI ((uq : Nat) : Int))) 49 (jI ((dq9 : Nat) : Int))))) (u29 := (oa (a 1) cI 201 (upd kd 200 6))) (u39 := (oa (a 11) cI 201 (upd mn 200 4))) (u40 := (oa (a 12) cI 8040 (bxX 200 (x1) (x3) 4 cx))) (u41 := (oa (a 13) cI 8040 (bxY 200 (x2) (x4) 4 cy))) (u53 := (oa (a 32) cI 8 S1)) hP hD hk1 hFc hP1 hD1
  clear hk1 hPc hDc hFc hP1 hD1 ht
  refine lv_pop hx hb dL_law_520 rfl ?_
  refine lv_goto (tgt := 1081) hx hb dL_law_521 rfl ?_
  obtain ⟨hP9, hD9⟩ := And.intro hP hD
  refine W.widen (k := 1000 + 1010 * (k9 + 1) + cp + 4 * cl) (n := 45000 + 8192 * cp + 512 * cl + U) (by first | exact wdK | omega) (by first | exact Nat.le_refl _ | omega) ?_
  have e26 : upd (upd (upd (upd (upd (upd (upd (upd I0 14 8) 15 (I0 15)) 26 (nI ln)) 44 x1) 45 x2) 46 x3) 47 x4) 26 (nI ln) = (upd (upd (upd (upd (upd (upd (upd I0 14 8) 15 (I0 15)) 26 (nI ln)) 44 x1) 45 x2) 46 x3) 47 x4) := up_same rfl
  exact hnext cp cl U H locs ls (lawI_in L f FA ea q_3 nt nw q_1 q_2 mc9 q_6 rt rw q_4 q_5 TX TY WX WY AR b1 b2 b3 b4 b5 b6 b7 b8 q_7 q_8 q_9 q_10 a1 a2 a3 a4 nv RA WT EX EY GR LV q_11 q_12 y3 y4 a (upd (upd (upd (upd (upd (upd (upd I0 14 8) 15 (I0 15)) 26 (nI ln)) 44 x1) 45 x2) 46 x3) 47 x4) (vp_updL (vp_updL J0 48 (jI ((uq : Nat) : Int))) 49 (jI ((dq9 : Nat) : Int))) (upd kd 200 6) st gb it pa pb rk wd tw tn (upd mn 200 4) (bxX 200 (x1) (x3) 4 cx) (bxY 200 (x2) (x4) 4 cy) sa shs wh of9 we la lb lc ld P0 Q0 S1 ox oy mt wi ins T0 fl mk jx jy gr bs dn T ft Sn AD C ln FT cc W9 V VX VY (by rw [e26]; exact hP9) (by rw [e26]; exact hD9) (shB_cg hB (wfS_mn hwfS) (ag_200 h200f)) (INV_K (INV_cg (gb := gb) (gb1 := gb) hI (ag_200 h200f) (fun q hq g => by rw [upo9 (by omega)]; exact hT0 q hq g))) ⟨hm0, hm19, hm20, hm21⟩ (by first | exact hU | omega)) hS (lv_sub hl [0, 1, 2, 3] rfl)
end
section
set_option maxHeartbeats 4000000 in
set_option maxRecDepth 100000 in
theorem lc_join_s4 {p : Program} {e : Env} {s : State} {m : MethodId} {below : List Frame} {meth : Method} {c : Code} (l : Launch) {b L9 : Nat} {xs : Nat → Int32} (C0 : lw_At p s m meth c b L9 xs) (dC : Nat → ClassId) (dI : Nat → Nat → Nat) (cI cZ cF cO : ClassId) (e0 mi : Nat) (x sl sh fa lw dr dx dy tg tx ty wy wx wz br bo aa ro za zw zx zy zg bq bp dq dp lv k0 : Nat) (hK : va_K (dC, dI) classes (zTyO cI cZ cF cO) s) (hXL : zXL e0 mi (fun q : Nat => s.heap.size ≤ q) s) (L : List Nat) (f : Nat → va_E) (FA : Nat → Option Nat) (ea : Nat) (nd : Nat) (nt : Nat) (nw : Nat) (ul : Int32) (su : Int32) (mc9 : Int32) (rd : Int32) (rt : Int32) (rw : Int32) (P : Nat → Int32) (Q : Nat → Int32) (TX : Nat → Int32) (TY : Nat → Int32) (WX : Nat → Int32) (WY : Nat → Int32) (AR : Nat → Int32) (b1 : Int32) (b2 : Int32) (b3 : Int32) (b4 : Int32) (b5 : Int32) (b6 : Int32) (b7 : Int32) (b8 : Int32) (c1 : Int32) (c2 : Int32) (c3 : Int32) (c4 : Int32) (a1 : Int32) (a2 : Int32) (a3 : Int32) (a4 : Int32) (nv : Int32) (RA : Nat → Option Nat) (WT : Nat → Int32) (EX : Nat → Int32) (EY : Nat → Int32) (GR : Nat → Int32) (LV : Nat → Int32) (y1 : Int64) (y2 : Int64) (y3 : Int64) (y4 : Int64) (a : Nat → Nat) (I0 : Nat → Int32) (J0 : Nat → Int64) (kd : Nat → Int32) (st : Nat → Int32) (gb : Nat → Int32) (it : Nat → Int32) (pa : Nat → Int32) (pb : Nat → Int32) (rk : Nat → Int32) (wd : Nat → Int32) (tw : Nat → Int32) (tn : Nat → Int32) (mn : Nat → Int32) (cx : Nat → Int32) (cy : Nat → Int32) (sa : Nat → Int32) (shs : Nat → Int32) (wh : Nat → Int32) (of9 : Nat → Int32) (we : Nat → Int32) (la : Nat → Int32) (lb : Nat → Int32) (lc : Nat → Int32) (ld : Nat → Int32) (P0 : Nat → Int32) (Q0 : Nat → Int32) (S0 : Nat → Int32) (ox : Nat → Int32) (oy : Nat → Int32) (mt : Nat → Int32) (wi : Nat → Int32) (ins : Nat → Int32) (T0 : Nat → Int32) (fl : Nat → Int32) (mk : Nat → Int32) (jx : Nat → Int32) (jy : Nat → Int32) (gr : Nat → Int32) (bs : Nat) (dn : Nat) (T : Nat) (ft : Nat) (Sn : Nat) (AD : Nat) (C : Nat) (ln : Nat) (FT : Nat → Nat) (cc : Nat → Nat) (W9 : Nat → Nat) (V : Nat → Nat → Nat → Int32) (VX : Nat → Nat → Int32) (VY : Nat → Nat → Int32) (cp cl U k9 : Nat) (hk9 : 6 * k9 + 6 ≤ L9) (hL9 : L9 ≤ 3072) (f0 : Nat) {H : Heap} {locs : List Loc} {ls : Array Slot} (hPD : zPD (dC, dI) classes (fun q : Nat => s.heap.size ≤ q) (((oc8 x (.ref sh) (.ref lw) (.ref ro) (.ref bq) (.ref bp) (.ref dq) (.ref dp) (.ref lv) (.ref sl) (nI dn) (nI bs) ul su) :: (oc10 sl mc9 (.ref ea) (nI T)) :: (oc7 sh (.ref fa) (nI ft)) :: (oq fa cF 200 FA) :: (oc3 lw (.ref dr) (.ref tg) (.ref wy) (.ref br) (.ref bo) (.ref aa)) :: (oc6 dr (.ref dx) (.ref dy) (nI nd) rd) :: (oa dx cI 40 P) :: (oa dy cI 40 Q) :: (oc6 tg (.ref tx) (.ref ty) (nI nt) rt) :: (oa tx cI 3 TX) :: (oa ty cI 3 TY) :: (oc6 wy (.ref wx) (.ref wz) (nI nw) rw) :: (oa wx cI 2 WX) :: (oa wz cI 2 WY) :: (oc0 br b1 b2 b3 b4) :: (oc0 bo b5 b6 b7 b8) :: (oa aa cI 40 AR) :: (oc5 ro (.ref za) (.ref zw) (.ref zx) (.ref zy) (.ref zg) nv) :: (oq za cF 200 RA) :: (oa zw cI 200 WT) :: (oa zx cI 400 EX) :: (oa zy cI 400 EY) :: (oa zg cI 400 GR) :: (oc0 bq c1 c2 c3 c4) :: (oc0 bp a1 a2 a3 a4) :: (oc2 dq y1 y2) :: (oc2 dp y3 y4) :: (oa lv cZ 200 LV) :: (om k0 a (upd I0 26 (nI ln)) J0) :: (oa (a 1) cI 201 kd) :: (oa (a 5) cI 201 st) :: (oa (a 7) cI 201 gb) :: (oa (a 10) cI 201 it) :: (oa (a 8) cI 201 pa) :: (oa (a 9) cI 201 pb) :: (oa (a 2) cI 201 rk) :: (oa (a 3) cI 201 wd) :: (oa (a 4) cI 201 tw) :: (oa (a 6) cZ 201 tn) :: (oa (a 11) cI 201 mn) :: (oa (a 12) cI 8040 cx) :: (oa (a 13) cI 8040 cy) :: (oa (a 27) cI 516 sa) :: (oa (a 28) cI (4096 * cp) shs) :: (oa (a 16) cI 514 wh) :: (oa (a 17) cI 514 of9) :: (oa (a 18) cI 514 we) :: (oa (a 22) cI (64 * cl) la) :: (oa (a 23) cI (64 * cl) lb) :: (oa (a 24) cI (64 * cl) lc) :: (oa (a 25) cI (64 * cl) ld) :: (oa (a 29) cI 42 P0) :: (oa (a 30) cI 42 Q0) :: (oa (a 32) cI 8 S0) :: (oa (a 33) cI 42 ox) :: (oa (a 34) cI 42 oy) :: (oa (a 37) cZ 201 mt) :: (oa (a 38) cZ 201 wi) :: (oa (a 39) cZ 8040 ins) :: (oa (a 40) cI 6 T0) :: (oa (a 43) cZ 40 fl) :: (oa (a 50) cZ 201 mk) :: (oa (a 51) cI 402 jx) :: (oa (a 52) cI 402 jy) :: (oa (a 53) cI 402 gr) :: []) ++ va_pl L f) H) (hS : va_S (fun q : Nat => s.heap.size ≤ q) s.heap H locs) (hl : lv_has ls 4 [(3, .int (nI (6 * k9))), (2, .ref k0), (1, .ref x), (0, .ref b)]) (hB : shB cI cO L f e0 FA ea bs dn T ft FT V VX VY tn rk wd tw pa pb wh of9 we kd st gb it mn cx cy) (hI : INV k9 Sn AD C cc W9 bs T ft cp ln cl FT V VX VY tn rk wd tw pa pb kd st it mn cx cy sa shs lb lc) (hM : I0 0 = nI ft ∧ I0 19 = nI dn ∧ I0 20 = nI (T - dn) ∧ I0 21 = nI bs) (hU : U ≤ Sn * (28 * (AD + C) + 1000) + 200 * (AD + C)) (hf0 : f0 < ft) (hv1 : xs (6 * k9 + 1) = nI f0) (hv2 : xs (6 * k9 + 2) = nI f0) (hok : ((st f0).toInt = 1 ∧ (st f0).toInt = 1) ∧ ((kd f0).toInt = 6 ∧ (kd f0).toInt = 6) ∧ (0 ≤ (xs (6 * k9 + 3)).toInt ∧ (xs (6 * k9 + 3)).toInt ≤ 1000) ∧ ((tn f0).toInt = 0 ∧ (tn f0).toInt = 0)) (hmt : ¬ mtF (kd f0).toInt (nN (mn f0)) (cF40 cx f0) (cF40 cy f0) (kd f0).toInt (nN (mn f0)) (cF40 cx f0) (cF40 cy f0)) (hfar : ∀ u d : Nat, 1 ≤ d → IM (dcP (nN (mn f0)) (cF40 cx f0) (cF40 cy f0) (nN (mn f0)) (cF40 cx f0) (cF40 cy f0) (eO (kd f0).toInt (nN (mn f0))) (eO (kd f0).toInt (nN (mn f0))) 0) ((u : Nat) : Int) ((d : Nat) : Int) → (xs (6 * k9 + 3)).toInt * (xs (6 * k9 + 3)).toInt * ((d : Nat) : Int) < ((u : Nat) : Int)) (hnext : ∀ (cp1 cl1 U1 : Nat) (H : Heap) (locs : List Loc) (ls : Array Slot), lawI s dC dI cI cZ cF cO e0 mi x sl sh fa lw dr dx dy tg tx ty wy wx wz br bo aa ro za zw zx zy zg bq bp dq dp lv k0 (k9 + 1) cp1 cl1 U1 H → va_S (fun q : Nat => s.heap.size ≤ q) s.heap H locs → lv_has ls 4 [(3, .int (nI (6 * k9))), (2, .ref k0), (1, .ref x), (0, .ref b)] → W p l e room_1 s m #[Value.ref b] below meth c H locs (1000 + 1010 * (k9 + 1) + cp1 + 4 * cl1) (45000 + 8192 * cp1 + 512 * cl1 + U1) (lw_Z below #[Value.ref b] s) (F0 m 1081 ls [])) : W p l e room_1 s m #[Value.ref b] below meth c H locs (1000 + 1010 * k9 + cp + 4 * cl) (45000 + 8192 * cp + 512 * cl + U) (lw_Z below #[Value.ref b] s) (F0 m 481 ls []) := by
  obtain ⟨hP, hD⟩ := hPD
  obtain ⟨hx, hb, hr, hml, hown, hts1, hX, hbl, hlocks, hgv⟩ := id C0
  have hts : ∀ w9 ∈ ws0, w9.before #[Value.ref b] s = true := fun w9 h => hts1 w9 (List.mem_filter.mp h).1
  have hA : ∀ q : Nat, s.heap.size ≤ q → (fun q : Nat => s.heap.size ≤ q) q := fun _ h => h
  have hbA : ¬ (fun q : Nat => s.heap.size ≤ q) b := Nat.not_le.mpr hbl
  have hXN := hXL.1
  have hK3 := hK.sub [0, 1, 2] rfl
  obtain ⟨hm0, hm19, hm20, hm21⟩ := hM
  have hpo := shB_po hB
  have hK512 : k9 + 1 ≤ 512 := r9_k hk9 hL9
  have hwfS := hI.1.1
  have hbdC := hI.1.2.2.1
  have hT0 := hI.1.2.2.2
  have hd9 := hpo.1
  have h200t : ∀ t, bs ≤ t → t ≤ T → FT t ≤ 200 := fun t t1 t2 => Nat.le_trans (hpo.2.1 t T t1 t2 (Nat.le_refl _)) hd9.2.2.2.2
  have h200f : ft ≤ 200 := (by rw [hd9.2.2.2.1]; exact h200t dn hd9.1 hd9.2.1)
  have hrkA : ∀ q, lvF ft st tn q → 0 ≤ (rk q).toInt ∧ (rk q).toInt ≤ 9 := fun q hq => (hI.1.2.1 q (Nat.lt_of_lt_of_le hq.1 (by rw [hd9.2.2.2.1]; exact hpo.2.1 dn T hd9.1 hd9.2.1 (Nat.le_refl _)))).1
  have hwdA : ∀ q, q < ft → 0 ≤ (wd q).toInt ∧ (wd q).toInt ≤ 100 := fun q hq => (hI.1.2.1 q (Nat.lt_of_lt_of_le hq (by rw [hd9.2.2.2.1]; exact hpo.2.1 dn T hd9.1 hd9.2.1 (Nat.le_refl _)))).2
  have hcp5 := INV_cp hI (Nat.le_of_succ_le hK512)
  have hcp1 := hI.2.2.1.2.1
  have hcnt := hI.2.2.2.1
  have hlst := hI.2.2.2.2
  have hlb := mul_514 (a := Sn) (b := C) (r9_s hcnt.2.1 hK512).2.1
  have hftA := bdC_F hbdC
  have hrm := room_c (Sn := Sn) (AD := AD) (C := C) (c := cp) (cl := cl) (U := U) (r9_s hcnt.2.1 hK512).1 hI.2.2.1.2.2.2.2.2 hlst.2.2.2.1 hU
  have hrc : 1000 + 1010 * k9 + cp + 4 * cl ≤ 600000 := (by omega)
  have hst := hok.1.1
  have htn := hok.2.2.2.1
  have hg9 : f0 < ft := hf0
  have hlv : lvF ft st tn f0 := ⟨hf0, hst, htn⟩
  have hccC := Nat.le_trans (smN_q (c := cc) (q := f0) (n := 200) (by omega)) hcnt.1
  have hwm := wfS_wf hwfS f0 hlv
  have hsm9 := wfS_sm hwfS hlv
  have hccf := hbdC.2 f0 hf0 htn
  have hlg : lvF ft st tn f0 := ⟨hg9, hok.1.2, hok.2.2.2.2⟩
  have hwg := wfS_wf hwfS f0 hlg
  refine la_9_1 l C0 hk9 hL9 hS hl (hv1) (hv2) (rfl) ?_
  obtain ⟨hPc, hDc, hFc⟩ := zt_17 hP hD hS hA
  refine zcall (st1 := [.int (-1)]) (va_runV (As := [.int (nI f0), .int (nI f0), .int (xs (6 * k9 + 3))]) (rest := []) ⟨hx, hb, hml, hown, hts⟩ (k_join_s l dC dI cI cZ cF H.size cO e0 mi x sh lw ro bq bp dq dp lv sl (nI bs) ul su ea mc9 fa FA bs dn T ft FT V VX VY tn rk wd tw pa pb wh of9 we kd st gb it mn cx cy L f f0 dr tg wy br bo aa dx dy nd 40 P Q rd c1 c2 c3 c4 y1 y2 (xs (6 * k9 + 3)) (hB) (hf0) (hok.2.2.2.1) (hok.1.1) (hok.2.1.1) (hok.2.2.1) (wfS_wf hwfS) (wfS_kn hwfS) (by first | decide | omega)) (csV_261 hts rfl rfl ⟨Nat.le_of_ble_eq_true rfl, Nat.le_of_ble_eq_true rfl⟩) (zPVL (q0 := 0) (ci := 8) hPc hDc hK hXL hS hFc rfl rfl) rfl rfl hl.1 rfl (lv_room (Nat.le_of_ble_eq_true rfl)) dL_law_497 ⟨hrc, hrm⟩) hS hFc hFc rfl (fun t H locs ht hB hk1 hS => ?_)
  refine ex12 hB (fun q_1 q_2 q_3 q_4 q_5 q_6 q_7 q_8 q_9 q_10 q_11 q_12 hB0 => ?_)
  clear hB
  obtain ⟨hP1, hD1⟩ := hB0
  rw [ht] at hP1
  obtain ⟨hP, hD⟩ := zs_17 (u0 := (oc8 x (.ref sh) (.ref lw) (.ref ro) (.ref bq) (.ref bp) (.ref dq) (.ref dp) (.ref lv) (.ref sl) (nI dn) (nI bs) q_1 q_2)) (u5 := (oc6 dr (.ref dx) (.ref dy) (nI q_3) q_6)) (u6 := (oa dx cI 40 q_4)) (u7 := (oa dy cI 40 q_5)) (u23 := (oc0 bq q_7 q_8 q_9 q_10)) (u25 := (oc2 dq q_11 q_12)) hP hD hk1 hFc hP1 hD1
  clear hk1 hPc hDc hFc hP1 hD1 ht
  refine lv_pop hx hb dL_law_500 rfl ?_
  refine la_9_2 l C0 hk9 hL9 hS hl (hv1) (hv2) (rfl) ?_
  obtain ⟨hPc, hDc, hFc⟩ := zt_7 hP hD hS hA
  refine zcall (st1 := [.int (-1)]) (va_runV (As := [.int (nI f0), .int (nI f0), .int (xs (6 * k9 + 3))]) (rest := []) ⟨hx, hb, hml, hown, hts⟩ (k_M_join_4 l dC dI cI cZ cF H.size k0 a (upd I0 26 (nI ln)) J0 f0 (nN (mn f0)) f0 (nN (mn f0)) ft (xs (6 * k9 + 3)) st tn kd mn cx cy S0 (hm0) (h200f) (by first | with_reducible assumption | omega) (hwm.1) (hwm.2.1) (hwm.2.2) (by first | with_reducible assumption | omega) (hwg.1) (hwg.2.1) (hwg.2.2) (hf0) (hg9) (hok) (hmt) (eO_6 hok.2.1.1 hwm.2.1.1) (eO_6 hok.2.1.2 hwg.2.1.1) (hfar)) (csV_262 hts rfl rfl ⟨Nat.le_of_ble_eq_true rfl, Nat.le_of_ble_eq_true rfl⟩) (zPV2 (q0 := 0) (ci := 9) hPc hDc hK3 hXN rfl rfl) rfl rfl hl.1 rfl (lv_room (Nat.le_of_ble_eq_true rfl)) dL_law_517 ⟨hrc, hrm⟩) hS hFc hFc rfl (fun t H locs ht hB hk1 hS => ?_)
  obtain ⟨uq, dq9, S1, hP1, hD1⟩ := hB
  rw [ht] at hP1
  obtain ⟨hP, hD⟩ := zs_7 (u28 := (om k0 a (upd (upd (upd I0 14 4) 15 (I0 15)) 26 (nI ln)) (vp_updL (vp_updL J0 48 (jI ((uq : Nat) : Int))) 49 (jI ((dq9 : Nat) : Int))))) (u53 := (oa (a 32) cI 8 S1)) hP hD hk1 hFc hP1 hD1
  clear hk1 hPc hDc hFc hP1 hD1 ht
  refine lv_pop hx hb dL_law_520 rfl ?_
  refine lv_goto (tgt := 1081) hx hb dL_law_521 rfl ?_
  obtain ⟨hP9, hD9⟩ := And.intro hP hD
  refine W.widen (k := 1000 + 1010 * (k9 + 1) + cp + 4 * cl) (n := 45000 + 8192 * cp + 512 * cl + U) (by first | exact wdK | omega) (by first | exact Nat.le_refl _ | omega) ?_
  have e26 : upd (upd (upd (upd I0 14 4) 15 (I0 15)) 26 (nI ln)) 26 (nI ln) = (upd (upd (upd I0 14 4) 15 (I0 15)) 26 (nI ln)) := up_same rfl
  exact hnext cp cl U H locs ls (lawI_in L f FA ea q_3 nt nw q_1 q_2 mc9 q_6 rt rw q_4 q_5 TX TY WX WY AR b1 b2 b3 b4 b5 b6 b7 b8 q_7 q_8 q_9 q_10 a1 a2 a3 a4 nv RA WT EX EY GR LV q_11 q_12 y3 y4 a (upd (upd (upd I0 14 4) 15 (I0 15)) 26 (nI ln)) (vp_updL (vp_updL J0 48 (jI ((uq : Nat) : Int))) 49 (jI ((dq9 : Nat) : Int))) kd st gb it pa pb rk wd tw tn mn cx cy sa shs wh of9 we la lb lc ld P0 Q0 S1 ox oy mt wi ins T0 fl mk jx jy gr bs dn T ft Sn AD C ln FT cc W9 V VX VY (by rw [e26]; exact hP9) (by rw [e26]; exact hD9) (hB) (INV_K hI) ⟨hm0, hm19, hm20, hm21⟩ (by first | exact hU | omega)) hS (lv_sub hl [0, 1, 2, 3] rfl)
set_option maxHeartbeats 4000000 in
set_option maxRecDepth 100000 in
theorem lc_join_s7 {p : Program} {e : Env} {s : State} {m : MethodId} {below : List Frame} {meth : Method} {c : Code} (l : Launch) {b L9 : Nat} {xs : Nat → Int32} (C0 : lw_At p s m meth c b L9 xs) (dC : Nat → ClassId) (dI : Nat → Nat → Nat) (cI cZ cF cO : ClassId) (e0 mi : Nat) (x sl sh fa lw dr dx dy tg tx ty wy wx wz br bo aa ro za zw zx zy zg bq bp dq dp lv k0 : Nat) (hK : va_K (dC, dI) classes (zTyO cI cZ cF cO) s) (hXL : zXL e0 mi (fun q : Nat => s.heap.size ≤ q) s) (L : List Nat) (f : Nat → va_E) (FA : Nat → Option Nat) (ea : Nat) (nd : Nat) (nt : Nat) (nw : Nat) (ul : Int32) (su : Int32) (mc9 : Int32) (rd : Int32) (rt : Int32) (rw : Int32) (P : Nat → Int32) (Q : Nat → Int32) (TX : Nat → Int32) (TY : Nat → Int32) (WX : Nat → Int32) (WY : Nat → Int32) (AR : Nat → Int32) (b1 : Int32) (b2 : Int32) (b3 : Int32) (b4 : Int32) (b5 : Int32) (b6 : Int32) (b7 : Int32) (b8 : Int32) (c1 : Int32) (c2 : Int32) (c3 : Int32) (c4 : Int32) (a1 : Int32) (a2 : Int32) (a3 : Int32) (a4 : Int32) (nv : Int32) (RA : Nat → Option Nat) (WT : Nat → Int32) (EX : Nat → Int32) (EY : Nat → Int32) (GR : Nat → Int32) (LV : Nat → Int32) (y1 : Int64) (y2 : Int64) (y3 : Int64) (y4 : Int64) (a : Nat → Nat) (I0 : Nat → Int32) (J0 : Nat → Int64) (kd : Nat → Int32) (st : Nat → Int32) (gb : Nat → Int32) (it : Nat → Int32) (pa : Nat → Int32) (pb : Nat → Int32) (rk : Nat → Int32) (wd : Nat → Int32) (tw : Nat → Int32) (tn : Nat → Int32) (mn : Nat → Int32) (cx : Nat → Int32) (cy : Nat → Int32) (sa : Nat → Int32) (shs : Nat → Int32) (wh : Nat → Int32) (of9 : Nat → Int32) (we : Nat → Int32) (la : Nat → Int32) (lb : Nat → Int32) (lc : Nat → Int32) (ld : Nat → Int32) (P0 : Nat → Int32) (Q0 : Nat → Int32) (S0 : Nat → Int32) (ox : Nat → Int32) (oy : Nat → Int32) (mt : Nat → Int32) (wi : Nat → Int32) (ins : Nat → Int32) (T0 : Nat → Int32) (fl : Nat → Int32) (mk : Nat → Int32) (jx : Nat → Int32) (jy : Nat → Int32) (gr : Nat → Int32) (bs : Nat) (dn : Nat) (T : Nat) (ft : Nat) (Sn : Nat) (AD : Nat) (C : Nat) (ln : Nat) (FT : Nat → Nat) (cc : Nat → Nat) (W9 : Nat → Nat) (V : Nat → Nat → Nat → Int32) (VX : Nat → Nat → Int32) (VY : Nat → Nat → Int32) (cp cl U k9 : Nat) (hk9 : 6 * k9 + 6 ≤ L9) (hL9 : L9 ≤ 3072) (f0 : Nat) {H : Heap} {locs : List Loc} {ls : Array Slot} (hPD : zPD (dC, dI) classes (fun q : Nat => s.heap.size ≤ q) (((oc8 x (.ref sh) (.ref lw) (.ref ro) (.ref bq) (.ref bp) (.ref dq) (.ref dp) (.ref lv) (.ref sl) (nI dn) (nI bs) ul su) :: (oc10 sl mc9 (.ref ea) (nI T)) :: (oc7 sh (.ref fa) (nI ft)) :: (oq fa cF 200 FA) :: (oc3 lw (.ref dr) (.ref tg) (.ref wy) (.ref br) (.ref bo) (.ref aa)) :: (oc6 dr (.ref dx) (.ref dy) (nI nd) rd) :: (oa dx cI 40 P) :: (oa dy cI 40 Q) :: (oc6 tg (.ref tx) (.ref ty) (nI nt) rt) :: (oa tx cI 3 TX) :: (oa ty cI 3 TY) :: (oc6 wy (.ref wx) (.ref wz) (nI nw) rw) :: (oa wx cI 2 WX) :: (oa wz cI 2 WY) :: (oc0 br b1 b2 b3 b4) :: (oc0 bo b5 b6 b7 b8) :: (oa aa cI 40 AR) :: (oc5 ro (.ref za) (.ref zw) (.ref zx) (.ref zy) (.ref zg) nv) :: (oq za cF 200 RA) :: (oa zw cI 200 WT) :: (oa zx cI 400 EX) :: (oa zy cI 400 EY) :: (oa zg cI 400 GR) :: (oc0 bq c1 c2 c3 c4) :: (oc0 bp a1 a2 a3 a4) :: (oc2 dq y1 y2) :: (oc2 dp y3 y4) :: (oa lv cZ 200 LV) :: (om k0 a (upd I0 26 (nI ln)) J0) :: (oa (a 1) cI 201 kd) :: (oa (a 5) cI 201 st) :: (oa (a 7) cI 201 gb) :: (oa (a 10) cI 201 it) :: (oa (a 8) cI 201 pa) :: (oa (a 9) cI 201 pb) :: (oa (a 2) cI 201 rk) :: (oa (a 3) cI 201 wd) :: (oa (a 4) cI 201 tw) :: (oa (a 6) cZ 201 tn) :: (oa (a 11) cI 201 mn) :: (oa (a 12) cI 8040 cx) :: (oa (a 13) cI 8040 cy) :: (oa (a 27) cI 516 sa) :: (oa (a 28) cI (4096 * cp) shs) :: (oa (a 16) cI 514 wh) :: (oa (a 17) cI 514 of9) :: (oa (a 18) cI 514 we) :: (oa (a 22) cI (64 * cl) la) :: (oa (a 23) cI (64 * cl) lb) :: (oa (a 24) cI (64 * cl) lc) :: (oa (a 25) cI (64 * cl) ld) :: (oa (a 29) cI 42 P0) :: (oa (a 30) cI 42 Q0) :: (oa (a 32) cI 8 S0) :: (oa (a 33) cI 42 ox) :: (oa (a 34) cI 42 oy) :: (oa (a 37) cZ 201 mt) :: (oa (a 38) cZ 201 wi) :: (oa (a 39) cZ 8040 ins) :: (oa (a 40) cI 6 T0) :: (oa (a 43) cZ 40 fl) :: (oa (a 50) cZ 201 mk) :: (oa (a 51) cI 402 jx) :: (oa (a 52) cI 402 jy) :: (oa (a 53) cI 402 gr) :: []) ++ va_pl L f) H) (hS : va_S (fun q : Nat => s.heap.size ≤ q) s.heap H locs) (hl : lv_has ls 4 [(3, .int (nI (6 * k9))), (2, .ref k0), (1, .ref x), (0, .ref b)]) (hB : shB cI cO L f e0 FA ea bs dn T ft FT V VX VY tn rk wd tw pa pb wh of9 we kd st gb it mn cx cy) (hI : INV k9 Sn AD C cc W9 bs T ft cp ln cl FT V VX VY tn rk wd tw pa pb kd st it mn cx cy sa shs lb lc) (hM : I0 0 = nI ft ∧ I0 19 = nI dn ∧ I0 20 = nI (T - dn) ∧ I0 21 = nI bs) (hU : U ≤ Sn * (28 * (AD + C) + 1000) + 200 * (AD + C)) (hf0 : f0 < ft) (hv1 : xs (6 * k9 + 1) = nI f0) (hv2 : xs (6 * k9 + 2) = nI f0) (hok : ((st f0).toInt = 1 ∧ (st f0).toInt = 1) ∧ ((kd f0).toInt = 6 ∧ (kd f0).toInt = 6) ∧ (0 ≤ (xs (6 * k9 + 3)).toInt ∧ (xs (6 * k9 + 3)).toInt ≤ 1000) ∧ ((tn f0).toInt = 0 ∧ (tn f0).toInt = 0)) (hnf : ¬ (¬ mtF (kd f0).toInt (nN (mn f0)) (cF40 cx f0) (cF40 cy f0) (kd f0).toInt (nN (mn f0)) (cF40 cx f0) (cF40 cy f0) ∧ ∀ u d : Nat, 1 ≤ d → IM (dcP (nN (mn f0)) (cF40 cx f0) (cF40 cy f0) (nN (mn f0)) (cF40 cx f0) (cF40 cy f0) (eO (kd f0).toInt (nN (mn f0))) (eO (kd f0).toInt (nN (mn f0))) 0) ((u : Nat) : Int) ((d : Nat) : Int) → (xs (6 * k9 + 3)).toInt * (xs (6 * k9 + 3)).toInt * ((d : Nat) : Int) < ((u : Nat) : Int))) (hno : ¬ jFr ft st tn (upd kd 200 6) (upd mn 200 4) (bxX 200 (jlo cx f0 (nN (mn f0)) f0 (nN (mn f0))) (jhi cx f0 (nN (mn f0)) f0 (nN (mn f0))) 4 cx) (bxY 200 (jlo cy f0 (nN (mn f0)) f0 (nN (mn f0))) (jhi cy f0 (nN (mn f0)) f0 (nN (mn f0))) 4 cy) f0 f0 ft) (hnext : ∀ (cp1 cl1 U1 : Nat) (H : Heap) (locs : List Loc) (ls : Array Slot), lawI s dC dI cI cZ cF cO e0 mi x sl sh fa lw dr dx dy tg tx ty wy wx wz br bo aa ro za zw zx zy zg bq bp dq dp lv k0 (k9 + 1) cp1 cl1 U1 H → va_S (fun q : Nat => s.heap.size ≤ q) s.heap H locs → lv_has ls 4 [(3, .int (nI (6 * k9))), (2, .ref k0), (1, .ref x), (0, .ref b)] → W p l e room_1 s m #[Value.ref b] below meth c H locs (1000 + 1010 * (k9 + 1) + cp1 + 4 * cl1) (45000 + 8192 * cp1 + 512 * cl1 + U1) (lw_Z below #[Value.ref b] s) (F0 m 1081 ls [])) : W p l e room_1 s m #[Value.ref b] below meth c H locs (1000 + 1010 * k9 + cp + 4 * cl) (45000 + 8192 * cp + 512 * cl + U) (lw_Z below #[Value.ref b] s) (F0 m 481 ls []) := by
  obtain ⟨hP, hD⟩ := hPD
  obtain ⟨hx, hb, hr, hml, hown, hts1, hX, hbl, hlocks, hgv⟩ := id C0
  have hts : ∀ w9 ∈ ws0, w9.before #[Value.ref b] s = true := fun w9 h => hts1 w9 (List.mem_filter.mp h).1
  have hA : ∀ q : Nat, s.heap.size ≤ q → (fun q : Nat => s.heap.size ≤ q) q := fun _ h => h
  have hbA : ¬ (fun q : Nat => s.heap.size ≤ q) b := Nat.not_le.mpr hbl
  have hXN := hXL.1
  have hK3 := hK.sub [0, 1, 2] rfl
  obtain ⟨hm0, hm19, hm20, hm21⟩ := hM
  have hpo := shB_po hB
  have hK512 : k9 + 1 ≤ 512 := r9_k hk9 hL9
  have hwfS := hI.1.1
  have hbdC := hI.1.2.2.1
  have hT0 := hI.1.2.2.2
  have hd9 := hpo.1
  have h200t : ∀ t, bs ≤ t → t ≤ T → FT t ≤ 200 := fun t t1 t2 => Nat.le_trans (hpo.2.1 t T t1 t2 (Nat.le_refl _)) hd9.2.2.2.2
  have h200f : ft ≤ 200 := (by rw [hd9.2.2.2.1]; exact h200t dn hd9.1 hd9.2.1)
  have hrkA : ∀ q, lvF ft st tn q → 0 ≤ (rk q).toInt ∧ (rk q).toInt ≤ 9 := fun q hq => (hI.1.2.1 q (Nat.lt_of_lt_of_le hq.1 (by rw [hd9.2.2.2.1]; exact hpo.2.1 dn T hd9.1 hd9.2.1 (Nat.le_refl _)))).1
  have hwdA : ∀ q, q < ft → 0 ≤ (wd q).toInt ∧ (wd q).toInt ≤ 100 := fun q hq => (hI.1.2.1 q (Nat.lt_of_lt_of_le hq (by rw [hd9.2.2.2.1]; exact hpo.2.1 dn T hd9.1 hd9.2.1 (Nat.le_refl _)))).2
  have hcp5 := INV_cp hI (Nat.le_of_succ_le hK512)
  have hcp1 := hI.2.2.1.2.1
  have hcnt := hI.2.2.2.1
  have hlst := hI.2.2.2.2
  have hlb := mul_514 (a := Sn) (b := C) (r9_s hcnt.2.1 hK512).2.1
  have hftA := bdC_F hbdC
  have hrm := room_c (Sn := Sn) (AD := AD) (C := C) (c := cp) (cl := cl) (U := U) (r9_s hcnt.2.1 hK512).1 hI.2.2.1.2.2.2.2.2 hlst.2.2.2.1 hU
  have hrc : 1000 + 1010 * k9 + cp + 4 * cl ≤ 600000 := (by omega)
  have hst := hok.1.1
  have htn := hok.2.2.2.1
  have hg9 : f0 < ft := hf0
  have hlv : lvF ft st tn f0 := ⟨hf0, hst, htn⟩
  have hccC := Nat.le_trans (smN_q (c := cc) (q := f0) (n := 200) (by omega)) hcnt.1
  have hwm := wfS_wf hwfS f0 hlv
  have hsm9 := wfS_sm hwfS hlv
  have hccf := hbdC.2 f0 hf0 htn
  have hlg : lvF ft st tn f0 := ⟨hg9, hok.1.2, hok.2.2.2.2⟩
  have hwg := wfS_wf hwfS f0 hlg
  refine la_9_1 l C0 hk9 hL9 hS hl (hv1) (hv2) (rfl) ?_
  obtain ⟨hPc, hDc, hFc⟩ := zt_17 hP hD hS hA
  refine zcall (st1 := [.int (-1)]) (va_runV (As := [.int (nI f0), .int (nI f0), .int (xs (6 * k9 + 3))]) (rest := []) ⟨hx, hb, hml, hown, hts⟩ (k_join_s l dC dI cI cZ cF H.size cO e0 mi x sh lw ro bq bp dq dp lv sl (nI bs) ul su ea mc9 fa FA bs dn T ft FT V VX VY tn rk wd tw pa pb wh of9 we kd st gb it mn cx cy L f f0 dr tg wy br bo aa dx dy nd 40 P Q rd c1 c2 c3 c4 y1 y2 (xs (6 * k9 + 3)) (hB) (hf0) (hok.2.2.2.1) (hok.1.1) (hok.2.1.1) (hok.2.2.1) (wfS_wf hwfS) (wfS_kn hwfS) (by first | decide | omega)) (csV_261 hts rfl rfl ⟨Nat.le_of_ble_eq_true rfl, Nat.le_of_ble_eq_true rfl⟩) (zPVL (q0 := 0) (ci := 8) hPc hDc hK hXL hS hFc rfl rfl) rfl rfl hl.1 rfl (lv_room (Nat.le_of_ble_eq_true rfl)) dL_law_497 ⟨hrc, hrm⟩) hS hFc hFc rfl (fun t H locs ht hB hk1 hS => ?_)
  refine ex12 hB (fun q_1 q_2 q_3 q_4 q_5 q_6 q_7 q_8 q_9 q_10 q_11 q_12 hB0 => ?_)
  clear hB
  obtain ⟨hP1, hD1⟩ := hB0
  rw [ht] at hP1
  obtain ⟨hP, hD⟩ := zs_17 (u0 := (oc8 x (.ref sh) (.ref lw) (.ref ro) (.ref bq) (.ref bp) (.ref dq) (.ref dp) (.ref lv) (.ref sl) (nI dn) (nI bs) q_1 q_2)) (u5 := (oc6 dr (.ref dx) (.ref dy) (nI q_3) q_6)) (u6 := (oa dx cI 40 q_4)) (u7 := (oa dy cI 40 q_5)) (u23 := (oc0 bq q_7 q_8 q_9 q_10)) (u25 := (oc2 dq q_11 q_12)) hP hD hk1 hFc hP1 hD1
  clear hk1 hPc hDc hFc hP1 hD1 ht
  refine lv_pop hx hb dL_law_500 rfl ?_
  refine la_9_2 l C0 hk9 hL9 hS hl (hv1) (hv2) (rfl) ?_
  obtain ⟨hPc, hDc, hFc⟩ := zt_7 hP hD hS hA
  refine zcall (st1 := [.int (-1)]) (va_runV (As := [.int (nI f0), .int (nI f0), .int (xs (6 * k9 + 3))]) (rest := []) ⟨hx, hb, hml, hown, hts⟩ (k_M_join_7 l dC dI cI cZ cF H.size k0 a (upd I0 26 (nI ln)) J0 f0 (nN (mn f0)) f0 (nN (mn f0)) ft (xs (6 * k9 + 3)) st tn kd mn cx cy S0 (hm0) (h200f) (by first | with_reducible assumption | omega) (hwm.1) (hwm.2.1) (hwm.2.2) (by first | with_reducible assumption | omega) (hwg.1) (hwg.2.1) (hwg.2.2) (hf0) (hg9) (hok) (eO_6 hok.2.1.1 hwm.2.1.1) (eO_6 hok.2.1.2 hwg.2.1.1) (wfS_wf hwfS) (hnf) (hno)) (csV_262 hts rfl rfl ⟨Nat.le_of_ble_eq_true rfl, Nat.le_of_ble_eq_true rfl⟩) (zPV2 (q0 := 0) (ci := 9) hPc hDc hK3 hXN rfl rfl) rfl rfl hl.1 rfl (lv_room (Nat.le_of_ble_eq_true rfl)) dL_law_517 ⟨hrc, hrm⟩) hS hFc hFc rfl (fun t H locs ht hB hk1 hS => ?_)
  refine ex7 hB (fun uq dq9 S1 x1 x2 x3 x4 hB0 => ?_)
  clear hB
  obtain ⟨ej1, ej2, ej3, ej4, hP1, hD1⟩ := hB0
  rw [ht] at hP1
  obtain ⟨hP, hD⟩ := zs_7 (u28 := (om k0 a (upd (upd (upd (upd (upd (upd (upd I0 14 7) 15 (I0 15 + 1)) 26 (nI ln)) 44 x1) 45 x2) 46 x3) 47 x4) (vp_updL (vp_updL J0 48 (jI ((uq : Nat) : Int))) 49 (jI ((dq9 : Nat) : Int))))) (u29 := (oa (a 1) cI 201 (upd kd 200 6))) (u39 := (oa (a 11) cI 201 (upd mn 200 4))) (u40 := (oa (a 12) cI 8040 (bxX 200 (x1) (x3) 4 cx))) (u41 := (oa (a 13) cI 8040 (bxY 200 (x2) (x4) 4 cy))) (u53 := (oa (a 32) cI 8 S1)) hP hD hk1 hFc hP1 hD1
  clear hk1 hPc hDc hFc hP1 hD1 ht
  refine lv_pop hx hb dL_law_520 rfl ?_
  refine lv_goto (tgt := 1081) hx hb dL_law_521 rfl ?_
  obtain ⟨hP9, hD9⟩ := And.intro hP hD
  refine W.widen (k := 1000 + 1010 * (k9 + 1) + cp + 4 * cl) (n := 45000 + 8192 * cp + 512 * cl + U) (by first | exact wdK | omega) (by first | exact Nat.le_refl _ | omega) ?_
  have e26 : upd (upd (upd (upd (upd (upd (upd (upd I0 14 7) 15 (I0 15 + 1)) 26 (nI ln)) 44 x1) 45 x2) 46 x3) 47 x4) 26 (nI ln) = (upd (upd (upd (upd (upd (upd (upd I0 14 7) 15 (I0 15 + 1)) 26 (nI ln)) 44 x1) 45 x2) 46 x3) 47 x4) := up_same rfl
  exact hnext cp cl U H locs ls (lawI_in L f FA ea q_3 nt nw q_1 q_2 mc9 q_6 rt rw q_4 q_5 TX TY WX WY AR b1 b2 b3 b4 b5 b6 b7 b8 q_7 q_8 q_9 q_10 a1 a2 a3 a4 nv RA WT EX EY GR LV q_11 q_12 y3 y4 a (upd (upd (upd (upd (upd (upd (upd I0 14 7) 15 (I0 15 + 1)) 26 (nI ln)) 44 x1) 45 x2) 46 x3) 47 x4) (vp_updL (vp_updL J0 48 (jI ((uq : Nat) : Int))) 49 (jI ((dq9 : Nat) : Int))) (upd kd 200 6) st gb it pa pb rk wd tw tn (upd mn 200 4) (bxX 200 (x1) (x3) 4 cx) (bxY 200 (x2) (x4) 4 cy) sa shs wh of9 we la lb lc ld P0 Q0 S1 ox oy mt wi ins T0 fl mk jx jy gr bs dn T ft Sn AD C ln FT cc W9 V VX VY (by rw [e26]; exact hP9) (by rw [e26]; exact hD9) (shB_cg hB (wfS_mn hwfS) (ag_200 h200f)) (INV_K (INV_cg (gb := gb) (gb1 := gb) hI (ag_200 h200f) (fun q hq g => by rw [upo9 (by omega)]; exact hT0 q hq g))) ⟨hm0, hm19, hm20, hm21⟩ (by first | exact hU | omega)) hS (lv_sub hl [0, 1, 2, 3] rfl)
set_option maxHeartbeats 4000000 in
set_option maxRecDepth 100000 in
theorem lc_join_s8 {p : Program} {e : Env} {s : State} {m : MethodId} {below : List Frame} {meth : Method} {c : Code} (l : Launch) {b L9 : Nat} {xs : Nat → Int32} (C0 : lw_At p s m meth c b L9 xs) (dC : Nat → ClassId) (dI : Nat → Nat → Nat) (cI cZ cF cO : ClassId) (e0 mi : Nat) (x sl sh fa lw dr dx dy tg tx ty wy wx wz br bo aa ro za zw zx zy zg bq bp dq dp lv k0 : Nat) (hK : va_K (dC, dI) classes (zTyO cI cZ cF cO) s) (hXL : zXL e0 mi (fun q : Nat => s.heap.size ≤ q) s) (L : List Nat) (f : Nat → va_E) (FA : Nat → Option Nat) (ea : Nat) (nd : Nat) (nt : Nat) (nw : Nat) (ul : Int32) (su : Int32) (mc9 : Int32) (rd : Int32) (rt : Int32) (rw : Int32) (P : Nat → Int32) (Q : Nat → Int32) (TX : Nat → Int32) (TY : Nat → Int32) (WX : Nat → Int32) (WY : Nat → Int32) (AR : Nat → Int32) (b1 : Int32) (b2 : Int32) (b3 : Int32) (b4 : Int32) (b5 : Int32) (b6 : Int32) (b7 : Int32) (b8 : Int32) (c1 : Int32) (c2 : Int32) (c3 : Int32) (c4 : Int32) (a1 : Int32) (a2 : Int32) (a3 : Int32) (a4 : Int32) (nv : Int32) (RA : Nat → Option Nat) (WT : Nat → Int32) (EX : Nat → Int32) (EY : Nat → Int32) (GR : Nat → Int32) (LV : Nat → Int32) (y1 : Int64) (y2 : Int64) (y3 : Int64) (y4 : Int64) (a : Nat → Nat) (I0 : Nat → Int32) (J0 : Nat → Int64) (kd : Nat → Int32) (st : Nat → Int32) (gb : Nat → Int32) (it : Nat → Int32) (pa : Nat → Int32) (pb : Nat → Int32) (rk : Nat → Int32) (wd : Nat → Int32) (tw : Nat → Int32) (tn : Nat → Int32) (mn : Nat → Int32) (cx : Nat → Int32) (cy : Nat → Int32) (sa : Nat → Int32) (shs : Nat → Int32) (wh : Nat → Int32) (of9 : Nat → Int32) (we : Nat → Int32) (la : Nat → Int32) (lb : Nat → Int32) (lc : Nat → Int32) (ld : Nat → Int32) (P0 : Nat → Int32) (Q0 : Nat → Int32) (S0 : Nat → Int32) (ox : Nat → Int32) (oy : Nat → Int32) (mt : Nat → Int32) (wi : Nat → Int32) (ins : Nat → Int32) (T0 : Nat → Int32) (fl : Nat → Int32) (mk : Nat → Int32) (jx : Nat → Int32) (jy : Nat → Int32) (gr : Nat → Int32) (bs : Nat) (dn : Nat) (T : Nat) (ft : Nat) (Sn : Nat) (AD : Nat) (C : Nat) (ln : Nat) (FT : Nat → Nat) (cc : Nat → Nat) (W9 : Nat → Nat) (V : Nat → Nat → Nat → Int32) (VX : Nat → Nat → Int32) (VY : Nat → Nat → Int32) (cp cl U k9 : Nat) (hk9 : 6 * k9 + 6 ≤ L9) (hL9 : L9 ≤ 3072) (f0 : Nat) {H : Heap} {locs : List Loc} {ls : Array Slot} (hPD : zPD (dC, dI) classes (fun q : Nat => s.heap.size ≤ q) (((oc8 x (.ref sh) (.ref lw) (.ref ro) (.ref bq) (.ref bp) (.ref dq) (.ref dp) (.ref lv) (.ref sl) (nI dn) (nI bs) ul su) :: (oc10 sl mc9 (.ref ea) (nI T)) :: (oc7 sh (.ref fa) (nI ft)) :: (oq fa cF 200 FA) :: (oc3 lw (.ref dr) (.ref tg) (.ref wy) (.ref br) (.ref bo) (.ref aa)) :: (oc6 dr (.ref dx) (.ref dy) (nI nd) rd) :: (oa dx cI 40 P) :: (oa dy cI 40 Q) :: (oc6 tg (.ref tx) (.ref ty) (nI nt) rt) :: (oa tx cI 3 TX) :: (oa ty cI 3 TY) :: (oc6 wy (.ref wx) (.ref wz) (nI nw) rw) :: (oa wx cI 2 WX) :: (oa wz cI 2 WY) :: (oc0 br b1 b2 b3 b4) :: (oc0 bo b5 b6 b7 b8) :: (oa aa cI 40 AR) :: (oc5 ro (.ref za) (.ref zw) (.ref zx) (.ref zy) (.ref zg) nv) :: (oq za cF 200 RA) :: (oa zw cI 200 WT) :: (oa zx cI 400 EX) :: (oa zy cI 400 EY) :: (oa zg cI 400 GR) :: (oc0 bq c1 c2 c3 c4) :: (oc0 bp a1 a2 a3 a4) :: (oc2 dq y1 y2) :: (oc2 dp y3 y4) :: (oa lv cZ 200 LV) :: (om k0 a (upd I0 26 (nI ln)) J0) :: (oa (a 1) cI 201 kd) :: (oa (a 5) cI 201 st) :: (oa (a 7) cI 201 gb) :: (oa (a 10) cI 201 it) :: (oa (a 8) cI 201 pa) :: (oa (a 9) cI 201 pb) :: (oa (a 2) cI 201 rk) :: (oa (a 3) cI 201 wd) :: (oa (a 4) cI 201 tw) :: (oa (a 6) cZ 201 tn) :: (oa (a 11) cI 201 mn) :: (oa (a 12) cI 8040 cx) :: (oa (a 13) cI 8040 cy) :: (oa (a 27) cI 516 sa) :: (oa (a 28) cI (4096 * cp) shs) :: (oa (a 16) cI 514 wh) :: (oa (a 17) cI 514 of9) :: (oa (a 18) cI 514 we) :: (oa (a 22) cI (64 * cl) la) :: (oa (a 23) cI (64 * cl) lb) :: (oa (a 24) cI (64 * cl) lc) :: (oa (a 25) cI (64 * cl) ld) :: (oa (a 29) cI 42 P0) :: (oa (a 30) cI 42 Q0) :: (oa (a 32) cI 8 S0) :: (oa (a 33) cI 42 ox) :: (oa (a 34) cI 42 oy) :: (oa (a 37) cZ 201 mt) :: (oa (a 38) cZ 201 wi) :: (oa (a 39) cZ 8040 ins) :: (oa (a 40) cI 6 T0) :: (oa (a 43) cZ 40 fl) :: (oa (a 50) cZ 201 mk) :: (oa (a 51) cI 402 jx) :: (oa (a 52) cI 402 jy) :: (oa (a 53) cI 402 gr) :: []) ++ va_pl L f) H) (hS : va_S (fun q : Nat => s.heap.size ≤ q) s.heap H locs) (hl : lv_has ls 4 [(3, .int (nI (6 * k9))), (2, .ref k0), (1, .ref x), (0, .ref b)]) (hB : shB cI cO L f e0 FA ea bs dn T ft FT V VX VY tn rk wd tw pa pb wh of9 we kd st gb it mn cx cy) (hI : INV k9 Sn AD C cc W9 bs T ft cp ln cl FT V VX VY tn rk wd tw pa pb kd st it mn cx cy sa shs lb lc) (hM : I0 0 = nI ft ∧ I0 19 = nI dn ∧ I0 20 = nI (T - dn) ∧ I0 21 = nI bs) (hU : U ≤ Sn * (28 * (AD + C) + 1000) + 200 * (AD + C)) (hf0 : f0 < ft) (hv1 : xs (6 * k9 + 1) = nI f0) (hv2 : xs (6 * k9 + 2) = nI f0) (hok : ((st f0).toInt = 1 ∧ (st f0).toInt = 1) ∧ ((kd f0).toInt = 6 ∧ (kd f0).toInt = 6) ∧ (0 ≤ (xs (6 * k9 + 3)).toInt ∧ (xs (6 * k9 + 3)).toInt ≤ 1000) ∧ ((tn f0).toInt = 0 ∧ (tn f0).toInt = 0)) (hnf : ¬ (¬ mtF (kd f0).toInt (nN (mn f0)) (cF40 cx f0) (cF40 cy f0) (kd f0).toInt (nN (mn f0)) (cF40 cx f0) (cF40 cy f0) ∧ ∀ u d : Nat, 1 ≤ d → IM (dcP (nN (mn f0)) (cF40 cx f0) (cF40 cy f0) (nN (mn f0)) (cF40 cx f0) (cF40 cy f0) (eO (kd f0).toInt (nN (mn f0))) (eO (kd f0).toInt (nN (mn f0))) 0) ((u : Nat) : Int) ((d : Nat) : Int) → (xs (6 * k9 + 3)).toInt * (xs (6 * k9 + 3)).toInt * ((d : Nat) : Int) < ((u : Nat) : Int))) (hfree : jFr ft st tn (upd kd 200 6) (upd mn 200 4) (bxX 200 (jlo cx f0 (nN (mn f0)) f0 (nN (mn f0))) (jhi cx f0 (nN (mn f0)) f0 (nN (mn f0))) 4 cx) (bxY 200 (jlo cy f0 (nN (mn f0)) f0 (nN (mn f0))) (jhi cy f0 (nN (mn f0)) f0 (nN (mn f0))) 4 cy) f0 f0 ft) (hnext : ∀ (cp1 cl1 U1 : Nat) (H : Heap) (locs : List Loc) (ls : Array Slot), lawI s dC dI cI cZ cF cO e0 mi x sl sh fa lw dr dx dy tg tx ty wy wx wz br bo aa ro za zw zx zy zg bq bp dq dp lv k0 (k9 + 1) cp1 cl1 U1 H → va_S (fun q : Nat => s.heap.size ≤ q) s.heap H locs → lv_has ls 4 [(3, .int (nI (6 * k9))), (2, .ref k0), (1, .ref x), (0, .ref b)] → W p l e room_1 s m #[Value.ref b] below meth c H locs (1000 + 1010 * (k9 + 1) + cp1 + 4 * cl1) (45000 + 8192 * cp1 + 512 * cl1 + U1) (lw_Z below #[Value.ref b] s) (F0 m 1081 ls [])) : W p l e room_1 s m #[Value.ref b] below meth c H locs (1000 + 1010 * k9 + cp + 4 * cl) (45000 + 8192 * cp + 512 * cl + U) (lw_Z below #[Value.ref b] s) (F0 m 481 ls []) := by
  obtain ⟨hP, hD⟩ := hPD
  obtain ⟨hx, hb, hr, hml, hown, hts1, hX, hbl, hlocks, hgv⟩ := id C0
  have hts : ∀ w9 ∈ ws0, w9.before #[Value.ref b] s = true := fun w9 h => hts1 w9 (List.mem_filter.mp h).1
  have hA : ∀ q : Nat, s.heap.size ≤ q → (fun q : Nat => s.heap.size ≤ q) q := fun _ h => h
  have hbA : ¬ (fun q : Nat => s.heap.size ≤ q) b := Nat.not_le.mpr hbl
  have hXN := hXL.1
  have hK3 := hK.sub [0, 1, 2] rfl
  obtain ⟨hm0, hm19, hm20, hm21⟩ := hM
  have hpo := shB_po hB
  have hK512 : k9 + 1 ≤ 512 := r9_k hk9 hL9
  have hwfS := hI.1.1
  have hbdC := hI.1.2.2.1
  have hT0 := hI.1.2.2.2
  have hd9 := hpo.1
  have h200t : ∀ t, bs ≤ t → t ≤ T → FT t ≤ 200 := fun t t1 t2 => Nat.le_trans (hpo.2.1 t T t1 t2 (Nat.le_refl _)) hd9.2.2.2.2
  have h200f : ft ≤ 200 := (by rw [hd9.2.2.2.1]; exact h200t dn hd9.1 hd9.2.1)
  have hrkA : ∀ q, lvF ft st tn q → 0 ≤ (rk q).toInt ∧ (rk q).toInt ≤ 9 := fun q hq => (hI.1.2.1 q (Nat.lt_of_lt_of_le hq.1 (by rw [hd9.2.2.2.1]; exact hpo.2.1 dn T hd9.1 hd9.2.1 (Nat.le_refl _)))).1
  have hwdA : ∀ q, q < ft → 0 ≤ (wd q).toInt ∧ (wd q).toInt ≤ 100 := fun q hq => (hI.1.2.1 q (Nat.lt_of_lt_of_le hq (by rw [hd9.2.2.2.1]; exact hpo.2.1 dn T hd9.1 hd9.2.1 (Nat.le_refl _)))).2
  have hcp5 := INV_cp hI (Nat.le_of_succ_le hK512)
  have hcp1 := hI.2.2.1.2.1
  have hcnt := hI.2.2.2.1
  have hlst := hI.2.2.2.2
  have hlb := mul_514 (a := Sn) (b := C) (r9_s hcnt.2.1 hK512).2.1
  have hftA := bdC_F hbdC
  have hrm := room_c (Sn := Sn) (AD := AD) (C := C) (c := cp) (cl := cl) (U := U) (r9_s hcnt.2.1 hK512).1 hI.2.2.1.2.2.2.2.2 hlst.2.2.2.1 hU
  have hrc : 1000 + 1010 * k9 + cp + 4 * cl ≤ 600000 := (by omega)
  have hst := hok.1.1
  have htn := hok.2.2.2.1
  have hg9 : f0 < ft := hf0
  have hlv : lvF ft st tn f0 := ⟨hf0, hst, htn⟩
  have hccC := Nat.le_trans (smN_q (c := cc) (q := f0) (n := 200) (by omega)) hcnt.1
  have hwm := wfS_wf hwfS f0 hlv
  have hsm9 := wfS_sm hwfS hlv
  have hccf := hbdC.2 f0 hf0 htn
  have hlg : lvF ft st tn f0 := ⟨hg9, hok.1.2, hok.2.2.2.2⟩
  have hwg := wfS_wf hwfS f0 hlg
  refine la_9_1 l C0 hk9 hL9 hS hl (hv1) (hv2) (rfl) ?_
  obtain ⟨hPc, hDc, hFc⟩ := zt_17 hP hD hS hA
  refine zcall (st1 := [.int (-1)]) (va_runV (As := [.int (nI f0), .int (nI f0), .int (xs (6 * k9 + 3))]) (rest := []) ⟨hx, hb, hml, hown, hts⟩ (k_join_s l dC dI cI cZ cF H.size cO e0 mi x sh lw ro bq bp dq dp lv sl (nI bs) ul su ea mc9 fa FA bs dn T ft FT V VX VY tn rk wd tw pa pb wh of9 we kd st gb it mn cx cy L f f0 dr tg wy br bo aa dx dy nd 40 P Q rd c1 c2 c3 c4 y1 y2 (xs (6 * k9 + 3)) (hB) (hf0) (hok.2.2.2.1) (hok.1.1) (hok.2.1.1) (hok.2.2.1) (wfS_wf hwfS) (wfS_kn hwfS) (by first | decide | omega)) (csV_261 hts rfl rfl ⟨Nat.le_of_ble_eq_true rfl, Nat.le_of_ble_eq_true rfl⟩) (zPVL (q0 := 0) (ci := 8) hPc hDc hK hXL hS hFc rfl rfl) rfl rfl hl.1 rfl (lv_room (Nat.le_of_ble_eq_true rfl)) dL_law_497 ⟨hrc, hrm⟩) hS hFc hFc rfl (fun t H locs ht hB hk1 hS => ?_)
  refine ex12 hB (fun q_1 q_2 q_3 q_4 q_5 q_6 q_7 q_8 q_9 q_10 q_11 q_12 hB0 => ?_)
  clear hB
  obtain ⟨hP1, hD1⟩ := hB0
  rw [ht] at hP1
  obtain ⟨hP, hD⟩ := zs_17 (u0 := (oc8 x (.ref sh) (.ref lw) (.ref ro) (.ref bq) (.ref bp) (.ref dq) (.ref dp) (.ref lv) (.ref sl) (nI dn) (nI bs) q_1 q_2)) (u5 := (oc6 dr (.ref dx) (.ref dy) (nI q_3) q_6)) (u6 := (oa dx cI 40 q_4)) (u7 := (oa dy cI 40 q_5)) (u23 := (oc0 bq q_7 q_8 q_9 q_10)) (u25 := (oc2 dq q_11 q_12)) hP hD hk1 hFc hP1 hD1
  clear hk1 hPc hDc hFc hP1 hD1 ht
  refine lv_pop hx hb dL_law_500 rfl ?_
  refine la_9_2 l C0 hk9 hL9 hS hl (hv1) (hv2) (rfl) ?_
  obtain ⟨hPc, hDc, hFc⟩ := zt_7 hP hD hS hA
  refine zcall (st1 := [.int (-1)]) (va_runV (As := [.int (nI f0), .int (nI f0), .int (xs (6 * k9 + 3))]) (rest := []) ⟨hx, hb, hml, hown, hts⟩ (k_M_join_8 l dC dI cI cZ cF H.size k0 a (upd I0 26 (nI ln)) J0 f0 (nN (mn f0)) f0 (nN (mn f0)) ft (xs (6 * k9 + 3)) st tn kd mn cx cy S0 (hm0) (h200f) (by first | with_reducible assumption | omega) (hwm.1) (hwm.2.1) (hwm.2.2) (by first | with_reducible assumption | omega) (hwg.1) (hwg.2.1) (hwg.2.2) (hf0) (hg9) (hok) (eO_6 hok.2.1.1 hwm.2.1.1) (eO_6 hok.2.1.2 hwg.2.1.1) (wfS_wf hwfS) (hnf) (hfree) (Or.inl rfl)) (csV_262 hts rfl rfl ⟨Nat.le_of_ble_eq_true rfl, Nat.le_of_ble_eq_true rfl⟩) (zPV2 (q0 := 0) (ci := 9) hPc hDc hK3 hXN rfl rfl) rfl rfl hl.1 rfl (lv_room (Nat.le_of_ble_eq_true rfl)) dL_law_517 ⟨hrc, hrm⟩) hS hFc hFc rfl (fun t H locs ht hB hk1 hS => ?_)
  refine ex7 hB (fun uq dq9 S1 x1 x2 x3 x4 hB0 => ?_)
  clear hB
  obtain ⟨ej1, ej2, ej3, ej4, hP1, hD1⟩ := hB0
  rw [ht] at hP1
  obtain ⟨hP, hD⟩ := zs_7 (u28 := (om k0 a (upd (upd (upd (upd (upd (upd (upd I0 14 8) 15 (I0 15)) 26 (nI ln)) 44 x1) 45 x2) 46 x3) 47 x4) (vp_updL (vp_updL J0 48 (jI ((uq : Nat) : Int))) 49 (jI ((dq9 : Nat) : Int))))) (u29 := (oa (a 1) cI 201 (upd kd 200 6))) (u39 := (oa (a 11) cI 201 (upd mn 200 4))) (u40 := (oa (a 12) cI 8040 (bxX 200 (x1) (x3) 4 cx))) (u41 := (oa (a 13) cI 8040 (bxY 200 (x2) (x4) 4 cy))) (u53 := (oa (a 32) cI 8 S1)) hP hD hk1 hFc hP1 hD1
  clear hk1 hPc hDc hFc hP1 hD1 ht
  refine lv_pop hx hb dL_law_520 rfl ?_
  refine lv_goto (tgt := 1081) hx hb dL_law_521 rfl ?_
  obtain ⟨hP9, hD9⟩ := And.intro hP hD
  refine W.widen (k := 1000 + 1010 * (k9 + 1) + cp + 4 * cl) (n := 45000 + 8192 * cp + 512 * cl + U) (by first | exact wdK | omega) (by first | exact Nat.le_refl _ | omega) ?_
  have e26 : upd (upd (upd (upd (upd (upd (upd (upd I0 14 8) 15 (I0 15)) 26 (nI ln)) 44 x1) 45 x2) 46 x3) 47 x4) 26 (nI ln) = (upd (upd (upd (upd (upd (upd (upd I0 14 8) 15 (I0 15)) 26 (nI ln)) 44 x1) 45 x2) 46 x3) 47 x4) := up_same rfl
  exact hnext cp cl U H locs ls (lawI_in L f FA ea q_3 nt nw q_1 q_2 mc9 q_6 rt rw q_4 q_5 TX TY WX WY AR b1 b2 b3 b4 b5 b6 b7 b8 q_7 q_8 q_9 q_10 a1 a2 a3 a4 nv RA WT EX EY GR LV q_11 q_12 y3 y4 a (upd (upd (upd (upd (upd (upd (upd I0 14 8) 15 (I0 15)) 26 (nI ln)) 44 x1) 45 x2) 46 x3) 47 x4) (vp_updL (vp_updL J0 48 (jI ((uq : Nat) : Int))) 49 (jI ((dq9 : Nat) : Int))) (upd kd 200 6) st gb it pa pb rk wd tw tn (upd mn 200 4) (bxX 200 (x1) (x3) 4 cx) (bxY 200 (x2) (x4) 4 cy) sa shs wh of9 we la lb lc ld P0 Q0 S1 ox oy mt wi ins T0 fl mk jx jy gr bs dn T ft Sn AD C ln FT cc W9 V VX VY (by rw [e26]; exact hP9) (by rw [e26]; exact hD9) (shB_cg hB (wfS_mn hwfS) (ag_200 h200f)) (INV_K (INV_cg (gb := gb) (gb1 := gb) hI (ag_200 h200f) (fun q hq g => by rw [upo9 (by omega)]; exact hT0 q hq g))) ⟨hm0, hm19, hm20, hm21⟩ (by first | exact hU | omega)) hS (lv_sub hl [0, 1, 2, 3] rfl)
set_option maxHeartbeats 4000000 in
set_option maxRecDepth 100000 in
theorem lc_join_y {p : Program} {e : Env} {s : State} {m : MethodId} {below : List Frame} {meth : Method} {c : Code} (l : Launch) {b L9 : Nat} {xs : Nat → Int32} (C0 : lw_At p s m meth c b L9 xs) (dC : Nat → ClassId) (dI : Nat → Nat → Nat) (cI cZ cF cO : ClassId) (e0 mi : Nat) (x sl sh fa lw dr dx dy tg tx ty wy wx wz br bo aa ro za zw zx zy zg bq bp dq dp lv k0 : Nat) (hK : va_K (dC, dI) classes (zTyO cI cZ cF cO) s) (hXL : zXL e0 mi (fun q : Nat => s.heap.size ≤ q) s) (L : List Nat) (f : Nat → va_E) (FA : Nat → Option Nat) (ea : Nat) (nd : Nat) (nt : Nat) (nw : Nat) (ul : Int32) (su : Int32) (mc9 : Int32) (rd : Int32) (rt : Int32) (rw : Int32) (P : Nat → Int32) (Q : Nat → Int32) (TX : Nat → Int32) (TY : Nat → Int32) (WX : Nat → Int32) (WY : Nat → Int32) (AR : Nat → Int32) (b1 : Int32) (b2 : Int32) (b3 : Int32) (b4 : Int32) (b5 : Int32) (b6 : Int32) (b7 : Int32) (b8 : Int32) (c1 : Int32) (c2 : Int32) (c3 : Int32) (c4 : Int32) (a1 : Int32) (a2 : Int32) (a3 : Int32) (a4 : Int32) (nv : Int32) (RA : Nat → Option Nat) (WT : Nat → Int32) (EX : Nat → Int32) (EY : Nat → Int32) (GR : Nat → Int32) (LV : Nat → Int32) (y1 : Int64) (y2 : Int64) (y3 : Int64) (y4 : Int64) (a : Nat → Nat) (I0 : Nat → Int32) (J0 : Nat → Int64) (kd : Nat → Int32) (st : Nat → Int32) (gb : Nat → Int32) (it : Nat → Int32) (pa : Nat → Int32) (pb : Nat → Int32) (rk : Nat → Int32) (wd : Nat → Int32) (tw : Nat → Int32) (tn : Nat → Int32) (mn : Nat → Int32) (cx : Nat → Int32) (cy : Nat → Int32) (sa : Nat → Int32) (shs : Nat → Int32) (wh : Nat → Int32) (of9 : Nat → Int32) (we : Nat → Int32) (la : Nat → Int32) (lb : Nat → Int32) (lc : Nat → Int32) (ld : Nat → Int32) (P0 : Nat → Int32) (Q0 : Nat → Int32) (S0 : Nat → Int32) (ox : Nat → Int32) (oy : Nat → Int32) (mt : Nat → Int32) (wi : Nat → Int32) (ins : Nat → Int32) (T0 : Nat → Int32) (fl : Nat → Int32) (mk : Nat → Int32) (jx : Nat → Int32) (jy : Nat → Int32) (gr : Nat → Int32) (bs : Nat) (dn : Nat) (T : Nat) (ft : Nat) (Sn : Nat) (AD : Nat) (C : Nat) (ln : Nat) (FT : Nat → Nat) (cc : Nat → Nat) (W9 : Nat → Nat) (V : Nat → Nat → Nat → Int32) (VX : Nat → Nat → Int32) (VY : Nat → Nat → Int32) (cp cl U k9 : Nat) (hk9 : 6 * k9 + 6 ≤ L9) (hL9 : L9 ≤ 3072) (f0 : Nat) (g0 : Nat) {H : Heap} {locs : List Loc} {ls : Array Slot} (hPD : zPD (dC, dI) classes (fun q : Nat => s.heap.size ≤ q) (((oc8 x (.ref sh) (.ref lw) (.ref ro) (.ref bq) (.ref bp) (.ref dq) (.ref dp) (.ref lv) (.ref sl) (nI dn) (nI bs) ul su) :: (oc10 sl mc9 (.ref ea) (nI T)) :: (oc7 sh (.ref fa) (nI ft)) :: (oq fa cF 200 FA) :: (oc3 lw (.ref dr) (.ref tg) (.ref wy) (.ref br) (.ref bo) (.ref aa)) :: (oc6 dr (.ref dx) (.ref dy) (nI nd) rd) :: (oa dx cI 40 P) :: (oa dy cI 40 Q) :: (oc6 tg (.ref tx) (.ref ty) (nI nt) rt) :: (oa tx cI 3 TX) :: (oa ty cI 3 TY) :: (oc6 wy (.ref wx) (.ref wz) (nI nw) rw) :: (oa wx cI 2 WX) :: (oa wz cI 2 WY) :: (oc0 br b1 b2 b3 b4) :: (oc0 bo b5 b6 b7 b8) :: (oa aa cI 40 AR) :: (oc5 ro (.ref za) (.ref zw) (.ref zx) (.ref zy) (.ref zg) nv) :: (oq za cF 200 RA) :: (oa zw cI 200 WT) :: (oa zx cI 400 EX) :: (oa zy cI 400 EY) :: (oa zg cI 400 GR) :: (oc0 bq c1 c2 c3 c4) :: (oc0 bp a1 a2 a3 a4) :: (oc2 dq y1 y2) :: (oc2 dp y3 y4) :: (oa lv cZ 200 LV) :: (om k0 a (upd I0 26 (nI ln)) J0) :: (oa (a 1) cI 201 kd) :: (oa (a 5) cI 201 st) :: (oa (a 7) cI 201 gb) :: (oa (a 10) cI 201 it) :: (oa (a 8) cI 201 pa) :: (oa (a 9) cI 201 pb) :: (oa (a 2) cI 201 rk) :: (oa (a 3) cI 201 wd) :: (oa (a 4) cI 201 tw) :: (oa (a 6) cZ 201 tn) :: (oa (a 11) cI 201 mn) :: (oa (a 12) cI 8040 cx) :: (oa (a 13) cI 8040 cy) :: (oa (a 27) cI 516 sa) :: (oa (a 28) cI (4096 * cp) shs) :: (oa (a 16) cI 514 wh) :: (oa (a 17) cI 514 of9) :: (oa (a 18) cI 514 we) :: (oa (a 22) cI (64 * cl) la) :: (oa (a 23) cI (64 * cl) lb) :: (oa (a 24) cI (64 * cl) lc) :: (oa (a 25) cI (64 * cl) ld) :: (oa (a 29) cI 42 P0) :: (oa (a 30) cI 42 Q0) :: (oa (a 32) cI 8 S0) :: (oa (a 33) cI 42 ox) :: (oa (a 34) cI 42 oy) :: (oa (a 37) cZ 201 mt) :: (oa (a 38) cZ 201 wi) :: (oa (a 39) cZ 8040 ins) :: (oa (a 40) cI 6 T0) :: (oa (a 43) cZ 40 fl) :: (oa (a 50) cZ 201 mk) :: (oa (a 51) cI 402 jx) :: (oa (a 52) cI 402 jy) :: (oa (a 53) cI 402 gr) :: []) ++ va_pl L f) H) (hS : va_S (fun q : Nat => s.heap.size ≤ q) s.heap H locs) (hl : lv_has ls 4 [(3, .int (nI (6 * k9))), (2, .ref k0), (1, .ref x), (0, .ref b)]) (hB : shB cI cO L f e0 FA ea bs dn T ft FT V VX VY tn rk wd tw pa pb wh of9 we kd st gb it mn cx cy) (hI : INV k9 Sn AD C cc W9 bs T ft cp ln cl FT V VX VY tn rk wd tw pa pb kd st it mn cx cy sa shs lb lc) (hM : I0 0 = nI ft ∧ I0 19 = nI dn ∧ I0 20 = nI (T - dn) ∧ I0 21 = nI bs) (hU : U ≤ Sn * (28 * (AD + C) + 1000) + 200 * (AD + C)) (hf0 : f0 < ft) (hv1 : xs (6 * k9 + 1) = nI f0) (hg0 : g0 < ft) (hv2 : xs (6 * k9 + 2) = nI g0) (hgf : g0 ≠ f0) (hok : ((st f0).toInt = 1 ∧ (st g0).toInt = 1) ∧ ((kd f0).toInt = 6 ∧ (kd g0).toInt = 6) ∧ (0 ≤ (xs (6 * k9 + 3)).toInt ∧ (xs (6 * k9 + 3)).toInt ≤ 1000) ∧ ((tn f0).toInt = 0 ∧ (tn g0).toInt = 0)) (hnf : ¬ (¬ mtF (kd f0).toInt (nN (mn f0)) (cF40 cx f0) (cF40 cy f0) (kd g0).toInt (nN (mn g0)) (cF40 cx g0) (cF40 cy g0) ∧ ∀ u d : Nat, 1 ≤ d → IM (dcP (nN (mn f0)) (cF40 cx f0) (cF40 cy f0) (nN (mn g0)) (cF40 cx g0) (cF40 cy g0) (eO (kd g0).toInt (nN (mn g0))) (eO (kd f0).toInt (nN (mn f0))) 0) ((u : Nat) : Int) ((d : Nat) : Int) → (xs (6 * k9 + 3)).toInt * (xs (6 * k9 + 3)).toInt * ((d : Nat) : Int) < ((u : Nat) : Int))) (hfree : jFr ft st tn (upd kd 200 6) (upd mn 200 4) (bxX 200 (jlo cx f0 (nN (mn f0)) g0 (nN (mn g0))) (jhi cx f0 (nN (mn f0)) g0 (nN (mn g0))) 4 cx) (bxY 200 (jlo cy f0 (nN (mn f0)) g0 (nN (mn g0))) (jhi cy f0 (nN (mn f0)) g0 (nN (mn g0))) 4 cy) f0 g0 ft) (hlt9 : ft < 200) (hnext : ∀ (cp1 cl1 U1 : Nat) (H : Heap) (locs : List Loc) (ls : Array Slot), lawI s dC dI cI cZ cF cO e0 mi x sl sh fa lw dr dx dy tg tx ty wy wx wz br bo aa ro za zw zx zy zg bq bp dq dp lv k0 (k9 + 1) cp1 cl1 U1 H → va_S (fun q : Nat => s.heap.size ≤ q) s.heap H locs → lv_has ls 4 [(3, .int (nI (6 * k9))), (2, .ref k0), (1, .ref x), (0, .ref b)] → W p l e room_1 s m #[Value.ref b] below meth c H locs (1000 + 1010 * (k9 + 1) + cp1 + 4 * cl1) (45000 + 8192 * cp1 + 512 * cl1 + U1) (lw_Z below #[Value.ref b] s) (F0 m 1081 ls [])) : W p l e room_1 s m #[Value.ref b] below meth c H locs (1000 + 1010 * k9 + cp + 4 * cl) (45000 + 8192 * cp + 512 * cl + U) (lw_Z below #[Value.ref b] s) (F0 m 481 ls []) := by
  obtain ⟨hP, hD⟩ := hPD
  obtain ⟨hx, hb, hr, hml, hown, hts1, hX, hbl, hlocks, hgv⟩ := id C0
  have hts : ∀ w9 ∈ ws0, w9.before #[Value.ref b] s = true := fun w9 h => hts1 w9 (List.mem_filter.mp h).1
  have hA : ∀ q : Nat, s.heap.size ≤ q → (fun q : Nat => s.heap.size ≤ q) q := fun _ h => h
  have hbA : ¬ (fun q : Nat => s.heap.size ≤ q) b := Nat.not_le.mpr hbl
  have hXN := hXL.1
  have hK3 := hK.sub [0, 1, 2] rfl
  obtain ⟨hm0, hm19, hm20, hm21⟩ := hM
  have hpo := shB_po hB
  have hK512 : k9 + 1 ≤ 512 := r9_k hk9 hL9
  have hwfS := hI.1.1
  have hbdC := hI.1.2.2.1
  have hT0 := hI.1.2.2.2
  have hd9 := hpo.1
  have h200t : ∀ t, bs ≤ t → t ≤ T → FT t ≤ 200 := fun t t1 t2 => Nat.le_trans (hpo.2.1 t T t1 t2 (Nat.le_refl _)) hd9.2.2.2.2
  have h200f : ft ≤ 200 := (by rw [hd9.2.2.2.1]; exact h200t dn hd9.1 hd9.2.1)
  have hrkA : ∀ q, lvF ft st tn q → 0 ≤ (rk q).toInt ∧ (rk q).toInt ≤ 9 := fun q hq => (hI.1.2.1 q (Nat.lt_of_lt_of_le hq.1 (by rw [hd9.2.2.2.1]; exact hpo.2.1 dn T hd9.1 hd9.2.1 (Nat.le_refl _)))).1
  have hwdA : ∀ q, q < ft → 0 ≤ (wd q).toInt ∧ (wd q).toInt ≤ 100 := fun q hq => (hI.1.2.1 q (Nat.lt_of_lt_of_le hq (by rw [hd9.2.2.2.1]; exact hpo.2.1 dn T hd9.1 hd9.2.1 (Nat.le_refl _)))).2
  have hcp5 := INV_cp hI (Nat.le_of_succ_le hK512)
  have hcp1 := hI.2.2.1.2.1
  have hcnt := hI.2.2.2.1
  have hlst := hI.2.2.2.2
  have hlb := mul_514 (a := Sn) (b := C) (r9_s hcnt.2.1 hK512).2.1
  have hftA := bdC_F hbdC
  have hst := hok.1.1
  have htn := hok.2.2.2.1
  have hg9 : g0 < ft := hg0
  have hlv : lvF ft st tn f0 := ⟨hf0, hst, htn⟩
  have hccC := Nat.le_trans (smN_q (c := cc) (q := f0) (n := 200) (by omega)) hcnt.1
  have hwm := wfS_wf hwfS f0 hlv
  have hsm9 := wfS_sm hwfS hlv
  have hccf := hbdC.2 f0 hf0 htn
  have hlg : lvF ft st tn g0 := ⟨hg9, hok.1.2, hok.2.2.2.2⟩
  have hwg := wfS_wf hwfS g0 hlg
  have hjp := jpl hwm.2.2 hwm.2.1.1 hwg.2.2 (cx := cx) (cy := cy)
  have hjl := jlo_lt hwm.2.2 hwg.2.2 (by have h6 := hsm9; rw [hok.2.1.1] at h6; exact h6)
  have hw1 : wfS (ft + 1) (upd kd ft 6) (upd (upd (upd st f0 2) g0 2) ft 1) (upd tn ft 0) (upd mn ft 4) (upd (upd (upd it f0 (nI ft)) g0 (nI ft)) ft (-1)) (bxX ft (jlo cx f0 (nN (mn f0)) g0 (nN (mn g0))) (jhi cx f0 (nN (mn f0)) g0 (nN (mn g0))) 4 cx) (bxY ft (jlo cy f0 (nN (mn f0)) g0 (nN (mn g0))) (jhi cy f0 (nN (mn f0)) g0 (nN (mn g0))) 4 cy) := wfS_join hwfS hf0 hg0 hok.1.1 hok.1.2 hgf hjp.1 hjp.2.2.1 hjp.2.1 hjp.2.2.2 hjl.1 hjl.2
  have hb1 := bdC_join hbdC hf0 hg0 hgf hok.1.1 hok.1.2
  have hbM : bdC cc AD (ft + 1) (upd (upd kd 200 6) ft 6) (upd (upd (upd st f0 2) g0 2) ft 1) (upd (upd mn 200 4) ft 4) (upd tn ft 0) := bdC_cg hb1 (fun _ _ g => g) (fun q hq g => Or.inl ⟨g, (ag_join (st := st) (gb := gb) (it := it) (cx := cx) (cy := cy) (z1 := 0) (z2 := 0) (z3 := 0) (z4 := 0) (kd := kd) (mn := mn) hlt9 q hq).1, by rw [(ag_join (st := st) (gb := gb) (it := it) (cx := cx) (cy := cy) (z1 := 0) (z2 := 0) (z3 := 0) (z4 := 0) (kd := kd) (mn := mn) hlt9 q hq).2.2.2.2.1]; exact Nat.le_refl _⟩)
  have e9s : upd (upd (upd st ft 1) f0 2) g0 2 = upd (upd (upd st f0 2) g0 2) ft 1 := upd3 (by omega) (by omega)
  obtain ⟨cq1, cq2, hpw1, hw0, hfit1, hmin1, hcE1, hpw2, hfit2, hmin2, hcE2, hp12, hcap⟩ := INV_fit hI hK512 hd9.1 hd9.2.1 h200t hbdC h200f hbM (by omega)
  have hq1 := pw_le hpw1
  have hq2 := pw_le hpw2
  have hSC : Sn * C ≤ (Sn + 1) * C := Nat.mul_le_mul (Nat.le_succ _) (Nat.le_refl _)
  have hU1 := ub_s hU (show 4 * ft + 860 ≤ 28 * (AD + C) + 1000 by omega)
  have hrm := room_c (Sn := Sn + 1) (AD := AD) (C := C) (c := cq2) (cl := cl) (U := U + (4 * ft + 860)) (r9_s hcnt.2.1 hK512).2.2 hcap (by first | exact r9_l hlst.2.2.2.1 hSC | omega) hU1
  refine la_9_1 l C0 hk9 hL9 hS hl (hv1) (hv2) (rfl) ?_
  obtain ⟨hPc, hDc, hFc⟩ := zt_17 hP hD hS hA
  refine zcall (st1 := [.int (nI ft)]) (va_runV (As := [.int (nI f0), .int (nI g0), .int (xs (6 * k9 + 3))]) (rest := []) ⟨hx, hb, hml, hown, hts⟩ (k_join_y l dC dI cI cZ cF H.size cO e0 mi x sh lw ro bq bp dq dp lv sl (nI bs) ul su ea mc9 fa FA bs dn T ft FT V VX VY tn rk wd tw pa pb wh of9 we kd st gb it mn cx cy L f f0 g0 dr tg wy br bo aa dx dy nd 40 P Q rd c1 c2 c3 c4 y1 y2 (xs (6 * k9 + 3)) (jlo cx f0 (nN (mn f0)) g0 (nN (mn g0))) (jlo cy f0 (nN (mn f0)) g0 (nN (mn g0))) (jhi cx f0 (nN (mn f0)) g0 (nN (mn g0))) (jhi cy f0 (nN (mn f0)) g0 (nN (mn g0))) (hB) (by first | exact r9_d hcnt.2 hK512 hd9.2.1 | exact Nat.le_trans hd9.2.1 hd9.2.2.1 | omega) (hf0) (hok.2.2.2.1) (hg0) (hok.2.2.2.2) (hgf) (hok.1.1) (hok.1.2) (hok.2.1.1) (hok.2.1.2) (hok.2.2.1) (wfS_wf hwfS) (wfS_kn hwfS) (by first | decide | omega) (rfl) (rfl) (rfl) (rfl) (hnf) (hfree) (hlt9)) (csV_261 hts rfl rfl ⟨Nat.le_of_ble_eq_true rfl, Nat.le_of_ble_eq_true rfl⟩) (zPVL (q0 := 0) (ci := 8) hPc hDc hK hXL hS hFc rfl rfl) rfl rfl hl.1 rfl (lv_room (Nat.le_of_ble_eq_true rfl)) dL_law_497 ⟨show (1000 + 1010 * k9 + cp + 4 * cl + (ft + 13)) ≤ 600000 by omega, show (45000 + 8192 * cp + 512 * cl + U + (4 * ft + 860)) ≤ 7302250 by omega⟩) hS hFc hFc rfl (fun t H locs ht hB hk1 hS => ?_)
  refine ex15 hB (fun q_1 q_2 q_3 q_4 q_5 q_6 q_7 q_8 q_9 q_10 q_11 q_12 q_13 q_14 q_15 hB0 => ?_)
  clear hB
  obtain ⟨hB1, hP1, hD1⟩ := hB0
  rw [ht] at hP1
  obtain ⟨hP, hD⟩ := zs_17 (u0 := (oc8 x (.ref sh) (.ref lw) (.ref ro) (.ref bq) (.ref bp) (.ref dq) (.ref dp) (.ref lv) (.ref sl) (nI (dn + 1)) (nI bs) ul 0)) (u1 := (oc10 sl q_1 (.ref q_4) (nI (dn + 1)))) (u5 := (oc6 dr (.ref dx) (.ref dy) (nI q_5) q_8)) (u6 := (oa dx cI 40 q_6)) (u7 := (oa dy cI 40 q_7)) (u23 := (oc0 bq q_9 q_10 q_11 q_12)) (u25 := (oc2 dq q_13 q_14)) (u2 := (oc7 sh (.ref fa) (nI (ft + 1)))) (u3 := (oq fa cF 200 (va_up FA ft (some q_15)))) hP hD hk1 hFc hP1 hD1
  clear hk1 hPc hDc hFc hP1 hD1 ht
  refine lv_pop hx hb dL_law_500 rfl ?_
  refine la_9_2 l C0 hk9 hL9 hS hl (hv1) (hv2) (rfl) ?_
  obtain ⟨hPc, hDc, hFc⟩ := zo_sub (wc := [_, _, _, _, _, _, _, _, _, _, _, _, _, _, _, _, _, _, _, _, _, _, _, _]) hP hD hS hA [28, 29, 30, 31, 32, 33, 34, 35, 36, 37, 38, 39, 40, 41, 42, 43, 44, 45, 46, 53, 47, 48, 49, 50] (by decide +kernel) rfl
  refine zcall (st1 := [.int (nI ft)]) (va_runV (As := [.int (nI f0), .int (nI g0), .int (xs (6 * k9 + 3))]) (rest := []) ⟨hx, hb, hml, hown, hts⟩ (k_M_join_y l dC dI cI cZ cF H.size k0 a (upd I0 26 (nI ln)) J0 f0 (nN (mn f0)) g0 (nN (mn g0)) ft (xs (6 * k9 + 3)) dn bs (W9 dn) cp cq1 cq2 ln cl kd st gb it pa pb rk wd tw tn mn cx cy sa shs wh of9 we S0 la lb lc ld (hm0) (h200f) (by first | with_reducible assumption | omega) (hwm.1) (hwm.2.1) (hwm.2.2) (by first | with_reducible assumption | omega) (hwg.1) (hwg.2.1) (hwg.2.2) (hf0) (hg9) (hok) (eO_6 hok.2.1.1 hwm.2.1.1) (eO_6 hok.2.1.2 hwg.2.1.1) (wfS_wf hwfS) (hnf) (hfree) (⟨fun e => hgf e.symm, hlt9⟩) (hm19) (hm21) (by first | exact hd9.1 | omega) (by first | exact Nat.le_trans hd9.2.1 hd9.2.2.1 | exact r9_d hcnt.2 hK512 hd9.2.1 | omega) (by first | exact hlst.1 | omega) (by first | exact hlst.2.1 | omega) (by first | exact r9_c hlst.2.2.2.1 hlb | omega) (by first | with_reducible assumption | omega) (hI.2.2.1.1.2.1 dn hpo.1.1 hpo.1.2.1) (wfS_mn hwfS) (by first | exact hcp1 | omega) (hpw1) (hw0) (hfit1) (hmin1) (hcE1) (hpw2) (by rw [e9s]; exact hfit2) (by rw [e9s]; exact hmin2) (hcE2)) (csV_262 hts rfl rfl ⟨Nat.le_of_ble_eq_true rfl, Nat.le_of_ble_eq_true rfl⟩) (zPV2 (q0 := 0) (ci := 9) hPc hDc hK3 hXN rfl rfl) rfl rfl hl.1 rfl (lv_room (Nat.le_of_ble_eq_true rfl)) dL_law_517 ⟨show ((1000 + 1010 * k9 + cp + 4 * cl + (ft + 13)) + (cq2 - cp)) ≤ 600000 by omega, show ((45000 + 8192 * cp + 512 * cl + U + (4 * ft + 860)) + (8192 * (cq2 - cp))) ≤ 7302250 by omega⟩) hS hFc hFc rfl (fun t H locs ht hB hk1 hS => ?_)
  refine ex14 hB (fun bb2 shs8 t9 uq dq9 S1 x1 x2 x3 x4 la1 lb1 lc1 ld1 hB0 => ?_)
  clear hB
  obtain ⟨ej1, ej2, ej3, ej4, p0, p1, p2, p3, p4, p5, p6, hP1, hD1⟩ := hB0
  rw [ht] at hP1
  obtain ⟨hP, hD⟩ := znQ (W2 := (_ :: _ :: _ :: _ :: _ :: _ :: _ :: _ :: _ :: _ :: _ :: _ :: _ :: _ :: _ :: _ :: _ :: _ :: _ :: _ :: _ :: _ :: _ :: _ :: _ :: _ :: _ :: _ :: _ :: _ :: _ :: _ :: _ :: _ :: _ :: _ :: _ :: _ :: _ :: _ :: _ :: (om k0 (va_up a 28 bb2) (upd (upd (upd (upd (upd (upd (upd (upd (upd (upd I0 0 (nI (ft + 1))) 14 0) 19 (nI (dn + 1))) 20 0) 26 (nI t9)) 41 (nI (psN (nnF (upd (upd (upd st ft 1) f0 2) g0 2) (upd tn ft 0) (upd (upd mn 200 4) ft 4)) (psN (nnF st tn mn) (W9 dn) ft) (ft + 1)))) 44 x1) 45 x2) 46 x3) 47 x4) (vp_updL (vp_updL J0 48 (jI ((uq : Nat) : Int))) 49 (jI ((dq9 : Nat) : Int)))) :: (oa (a 1) cI 201 (upd (upd kd 200 6) ft 6)) :: (oa (a 5) cI 201 (upd (upd (upd st ft 1) f0 2) g0 2)) :: (oa (a 7) cI 201 (upd (upd (upd gb ft 0) f0 (nI (dn + 1))) g0 (nI (dn + 1)))) :: (oa (a 10) cI 201 (upd (upd (upd it ft (-1)) f0 (nI ft)) g0 (nI ft))) :: (oa (a 8) cI 201 (upd pa ft (nI f0))) :: (oa (a 9) cI 201 (upd pb ft (nI g0))) :: (oa (a 2) cI 201 (upd rk ft (rk f0))) :: (oa (a 3) cI 201 (upd wd ft (wd f0))) :: (oa (a 4) cI 201 (upd tw ft (tw f0))) :: (oa (a 6) cZ 201 (upd tn ft 0)) :: (oa (a 11) cI 201 (upd (upd mn 200 4) ft 4)) :: (oa (a 12) cI 8040 (bxX ft (x1) (x3) 4 (bxX 200 (x1) (x3) 4 cx))) :: (oa (a 13) cI 8040 (bxY ft (x2) (x4) 4 (bxY 200 (x2) (x4) 4 cy))) :: (oa (a 27) cI 516 (upd (upd sa (dn - bs + 1) (nI (psN (nnF st tn mn) (W9 dn) ft))) (dn + 1 - bs + 1) (nI (psN (nnF (upd (upd (upd st ft 1) f0 2) g0 2) (upd tn ft 0) (upd (upd mn 200 4) ft 4)) (psN (nnF st tn mn) (W9 dn) ft) (ft + 1))))) :: (oa bb2 cI (4096 * cq2) shs8) :: (oa (a 16) cI 514 (upd wh (dn + 1) (6 : Int32))) :: (oa (a 17) cI 514 (upd of9 (dn + 1) (nI f0))) :: (oa (a 18) cI 514 (upd we (dn + 1) (2 : Int32))) :: (oa (a 32) cI 8 S1) :: (oa (a 22) cI (64 * cl) la1) :: (oa (a 23) cI (64 * cl) lb1) :: (oa (a 24) cI (64 * cl) lc1) :: (oa (a 25) cI (64 * cl) ld1) :: [])) hP hD hk1 hFc hP1 hD1 zl_305 zl_306 zl_307 zl_308 (by decide +kernel) rfl rfl rfl rfl rfl
  clear hk1 hPc hDc hFc hP1 hD1 ht
  refine lv_pop hx hb dL_law_520 rfl ?_
  refine lv_goto (tgt := 1081) hx hb dL_law_521 rfl ?_
  rw [ej1] at hP hD p4
  rw [ej2] at hP hD p4
  rw [ej3] at hP hD p4
  rw [ej4] at hP hD p4
  have ef4 : upd (upd (upd st ft 1) f0 2) g0 2 = upd (upd (upd st f0 2) g0 2) ft 1 := upd3 (by omega) (by omega)
  rw [ef4] at hP hD p4
  have ef5 : upd (upd (upd gb ft 0) f0 (nI (dn + 1))) g0 (nI (dn + 1)) = upd (upd (upd gb f0 (nI (dn + 1))) g0 (nI (dn + 1))) ft 0 := upd3 (by omega) (by omega)
  rw [ef5] at hP hD p4
  have ef6 : upd (upd (upd it ft (-1)) f0 (nI ft)) g0 (nI ft) = upd (upd (upd it f0 (nI ft)) g0 (nI ft)) ft (-1) := upd3 (by omega) (by omega)
  rw [ef6] at hP hD p4
  obtain ⟨hP9, hD9⟩ := zq_part (cx := (_ :: _ :: _ :: _ :: _ :: _ :: _ :: _ :: _ :: _ :: _ :: _ :: _ :: _ :: _ :: _ :: _ :: _ :: _ :: _ :: _ :: _ :: _ :: _ :: _ :: _ :: _ :: _ :: _ :: _ :: _ :: _ :: _ :: _ :: _ :: _ :: _ :: _ :: _ :: _ :: _ :: _ :: _ :: _ :: _ :: _ :: _ :: _ :: _ :: _ :: _ :: _ :: _ :: _ :: _ :: _ :: _ :: _ :: _ :: _ :: _ :: _ :: _ :: _ :: _ :: [])) hP hD (0 :: 1 :: 2 :: 3 :: 4 :: 5 :: 6 :: 7 :: 8 :: 9 :: 10 :: 11 :: 12 :: 13 :: 14 :: 15 :: 16 :: 17 :: 18 :: 19 :: 20 :: 21 :: 22 :: 23 :: 24 :: 25 :: 26 :: 27 :: 41 :: 42 :: 43 :: 44 :: 45 :: 46 :: 47 :: 48 :: 49 :: 50 :: 51 :: 52 :: 53 :: 54 :: 55 :: 56 :: 57 :: 58 :: 59 :: 61 :: 62 :: 63 :: 64 :: 28 :: 29 :: 60 :: 30 :: 31 :: 32 :: 33 :: 34 :: 35 :: 36 :: 37 :: 38 :: 39 :: 40 :: []) rfl rfl
  have hag := ag_join (st := (upd (upd (upd st f0 2) g0 2) ft 1)) (gb := (upd (upd (upd gb f0 (nI (dn + 1))) g0 (nI (dn + 1))) ft 0)) (it := (upd (upd (upd it f0 (nI ft)) g0 (nI ft)) ft (-1))) (cx := cx) (cy := cy) (z1 := (jlo cx f0 (nN (mn f0)) g0 (nN (mn g0)))) (z2 := (jlo cy f0 (nN (mn f0)) g0 (nN (mn g0)))) (z3 := (jhi cx f0 (nN (mn f0)) g0 (nN (mn g0)))) (z4 := (jhi cy f0 (nN (mn f0)) g0 (nN (mn g0)))) (kd := kd) (mn := mn) hlt9
  have hbk : blK shs8 (upd pa ft (nI f0)) (upd pb ft (nI g0)) (upd rk ft (rk f0)) (upd wd ft (wd f0)) (upd tw ft (tw f0)) (upd tn ft 0) (ft + 1) (vC (upd (upd kd 200 6) ft 6) (upd (upd (upd st f0 2) g0 2) ft 1) (upd (upd (upd gb f0 (nI (dn + 1))) g0 (nI (dn + 1))) ft 0) (upd (upd (upd it f0 (nI ft)) g0 (nI ft)) ft (-1)) (upd (upd mn 200 4) ft 4)) (bxX ft (jlo cx f0 (nN (mn f0)) g0 (nN (mn g0))) (jhi cx f0 (nN (mn f0)) g0 (nN (mn g0))) 4 (bxX 200 (jlo cx f0 (nN (mn f0)) g0 (nN (mn g0))) (jhi cx f0 (nN (mn f0)) g0 (nN (mn g0))) 4 cx)) (bxY ft (jlo cy f0 (nN (mn f0)) g0 (nN (mn g0))) (jhi cy f0 (nN (mn f0)) g0 (nN (mn g0))) 4 (bxY 200 (jlo cy f0 (nN (mn f0)) g0 (nN (mn g0))) (jhi cy f0 (nN (mn f0)) g0 (nN (mn g0))) 4 cy)) (psN (nnF st tn mn) (W9 dn) ft) := ⟨p3, p4⟩
  have hbk2 := blK_ag hag hbk hw1
  have hls9 : t9 ≤ 64 * cl ∧ 1 ≤ cl ∧ t9 ≤ (Sn + 1) * C ∧ (cl = 1 ∨ 32 * cl ≤ (Sn + 1) * C) ∧ ∀ j, j < t9 → pl (lb1 j) ∧ pl (lc1 j) := ⟨by first | exact Nat.le_trans p5 hlst.1 | omega, by first | exact hlst.2.1 | omega, by first | exact Nat.le_trans (Nat.le_trans p5 hlst.2.2.1) hSC | omega, by first | exact r9_l hlst.2.2.2.1 hSC | omega, fun j hj => by obtain ⟨i9, hi9, e1, e2⟩ := p6 j hj; rw [e1, e2]; exact hlst.2.2.2.2 i9 hi9⟩
  have hinv := INV_step (P2 := psN (nnF (upd (upd (upd st f0 2) g0 2) ft 1) (upd tn ft 0) (upd (upd mn 200 4) ft 4)) (psN (nnF st tn mn) (W9 dn) ft) (ft + 1)) hI hpo rfl (psN_cg (fun g hg => nnF_ag hag g hg) (ft + 1) (Nat.le_refl _)) p0 p1 p2 p3 hbk2.2 (fun g hg => ⟨upo9 (by omega), upo9 (by omega), upo9 (by omega), upo9 (by omega), upo9 (by omega), upo9 (by omega)⟩) hw1 (fun q hq => by by_cases e : q = ft; (rw [e, up_at, up_at]; exact ⟨hrkA f0 hlv, hwdA f0 hf0⟩); (rw [upo9 e, upo9 e]; exact hI.1.2.1 q (Nat.lt_of_lt_of_le (show q < ft by omega) (by rw [hd9.2.2.2.1]; exact hpo.2.1 dn T hd9.1 hd9.2.1 (Nat.le_refl _))))) hb1 (fun q hq g => by by_cases e : q = ft; (rw [e, up_at] at g; exact absurd rfl g); (rw [upo9 e] at g; rw [upo9 e]; exact hT0 q hq g)) (by omega) hp12 hfit2 hcap hls9
  refine W.widen (k := 1000 + 1010 * (k9 + 1) + cq2 + 4 * cl) (n := 45000 + 8192 * cq2 + 512 * cl + (U + (4 * ft + 860))) (by first | exact wdK | omega) (by first | exact Nat.le_refl _ | omega) ?_
  have e26 : upd (upd (upd (upd (upd (upd (upd (upd (upd (upd (upd I0 0 (nI (ft + 1))) 14 0) 19 (nI (dn + 1))) 20 0) 26 (nI t9)) 41 (nI (psN (nnF (upd (upd (upd st f0 2) g0 2) ft 1) (upd tn ft 0) (upd (upd mn 200 4) ft 4)) (psN (nnF st tn mn) (W9 dn) ft) (ft + 1)))) 44 (jlo cx f0 (nN (mn f0)) g0 (nN (mn g0)))) 45 (jlo cy f0 (nN (mn f0)) g0 (nN (mn g0)))) 46 (jhi cx f0 (nN (mn f0)) g0 (nN (mn g0)))) 47 (jhi cy f0 (nN (mn f0)) g0 (nN (mn g0)))) 26 (nI t9) = (upd (upd (upd (upd (upd (upd (upd (upd (upd (upd I0 0 (nI (ft + 1))) 14 0) 19 (nI (dn + 1))) 20 0) 26 (nI t9)) 41 (nI (psN (nnF (upd (upd (upd st f0 2) g0 2) ft 1) (upd tn ft 0) (upd (upd mn 200 4) ft 4)) (psN (nnF st tn mn) (W9 dn) ft) (ft + 1)))) 44 (jlo cx f0 (nN (mn f0)) g0 (nN (mn g0)))) 45 (jlo cy f0 (nN (mn f0)) g0 (nN (mn g0)))) 46 (jhi cx f0 (nN (mn f0)) g0 (nN (mn g0)))) 47 (jhi cy f0 (nN (mn f0)) g0 (nN (mn g0)))) := up_same rfl
  exact hnext cq2 cl (U + (4 * ft + 860)) H locs ls (lawI_in q_2 q_3 (va_up FA ft (some q_15)) q_4 q_5 nt nw ul 0 q_1 q_8 rt rw q_6 q_7 TX TY WX WY AR b1 b2 b3 b4 b5 b6 b7 b8 q_9 q_10 q_11 q_12 a1 a2 a3 a4 nv RA WT EX EY GR LV q_13 q_14 y3 y4 (va_up a 28 bb2) (upd (upd (upd (upd (upd (upd (upd (upd (upd (upd I0 0 (nI (ft + 1))) 14 0) 19 (nI (dn + 1))) 20 0) 26 (nI t9)) 41 (nI (psN (nnF (upd (upd (upd st f0 2) g0 2) ft 1) (upd tn ft 0) (upd (upd mn 200 4) ft 4)) (psN (nnF st tn mn) (W9 dn) ft) (ft + 1)))) 44 (jlo cx f0 (nN (mn f0)) g0 (nN (mn g0)))) 45 (jlo cy f0 (nN (mn f0)) g0 (nN (mn g0)))) 46 (jhi cx f0 (nN (mn f0)) g0 (nN (mn g0)))) 47 (jhi cy f0 (nN (mn f0)) g0 (nN (mn g0)))) (vp_updL (vp_updL J0 48 (jI ((uq : Nat) : Int))) 49 (jI ((dq9 : Nat) : Int))) (upd (upd kd 200 6) ft 6) (upd (upd (upd st f0 2) g0 2) ft 1) (upd (upd (upd gb f0 (nI (dn + 1))) g0 (nI (dn + 1))) ft 0) (upd (upd (upd it f0 (nI ft)) g0 (nI ft)) ft (-1)) (upd pa ft (nI f0)) (upd pb ft (nI g0)) (upd rk ft (rk f0)) (upd wd ft (wd f0)) (upd tw ft (tw f0)) (upd tn ft 0) (upd (upd mn 200 4) ft 4) (bxX ft ((jlo cx f0 (nN (mn f0)) g0 (nN (mn g0)))) ((jhi cx f0 (nN (mn f0)) g0 (nN (mn g0)))) 4 (bxX 200 ((jlo cx f0 (nN (mn f0)) g0 (nN (mn g0)))) ((jhi cx f0 (nN (mn f0)) g0 (nN (mn g0)))) 4 cx)) (bxY ft ((jlo cy f0 (nN (mn f0)) g0 (nN (mn g0)))) ((jhi cy f0 (nN (mn f0)) g0 (nN (mn g0)))) 4 (bxY 200 ((jlo cy f0 (nN (mn f0)) g0 (nN (mn g0)))) ((jhi cy f0 (nN (mn f0)) g0 (nN (mn g0)))) 4 cy)) (upd (upd sa (dn - bs + 1) (nI (psN (nnF st tn mn) (W9 dn) ft))) (dn + 1 - bs + 1) (nI (psN (nnF (upd (upd (upd st f0 2) g0 2) ft 1) (upd tn ft 0) (upd (upd mn 200 4) ft 4)) (psN (nnF st tn mn) (W9 dn) ft) (ft + 1)))) shs8 (upd wh (dn + 1) (6 : Int32)) (upd of9 (dn + 1) (nI f0)) (upd we (dn + 1) (2 : Int32)) la1 lb1 lc1 ld1 P0 Q0 S1 ox oy mt wi ins T0 fl mk jx jy gr bs (dn + 1) (dn + 1) (ft + 1) (Sn + 1) AD C t9 (upN FT (dn + 1) (ft + 1)) cc (upN W9 (dn + 1) (psN (nnF st tn mn) (W9 dn) ft)) (upN V (dn + 1) (vC (upd kd ft 6) (upd (upd (upd st f0 2) g0 2) ft 1) (upd (upd (upd gb f0 (nI (dn + 1))) g0 (nI (dn + 1))) ft 0) (upd (upd (upd it f0 (nI ft)) g0 (nI ft)) ft (-1)) (upd mn ft 4))) (upN VX (dn + 1) (bxX ft (jlo cx f0 (nN (mn f0)) g0 (nN (mn g0))) (jhi cx f0 (nN (mn f0)) g0 (nN (mn g0))) 4 cx)) (upN VY (dn + 1) (bxY ft (jlo cy f0 (nN (mn f0)) g0 (nN (mn g0))) (jhi cy f0 (nN (mn f0)) g0 (nN (mn g0))) 4 cy)) (by rw [e26]; exact hP9) (by rw [e26]; exact hD9) (shB_cg hB1 (wfS_mn hw1) hag) (INV_cg hinv hag (fun q hq g => by by_cases e : q = ft; (rw [e, up_at] at g; exact absurd rfl g); (rw [upo9 e] at g; rw [upo9 e, upo9 (by omega)]; exact hT0 q hq g))) ⟨rfl, rfl, (by rw [Nat.sub_self]; rfl), hm21⟩ (hU1)) hS (lv_sub hl [0, 1, 2, 3] rfl)
set_option maxHeartbeats 4000000 in
set_option maxRecDepth 100000 in
theorem lc_shift_r {p : Program} {e : Env} {s : State} {m : MethodId} {below : List Frame} {meth : Method} {c : Code} (l : Launch) {b L9 : Nat} {xs : Nat → Int32} (C0 : lw_At p s m meth c b L9 xs) (dC : Nat → ClassId) (dI : Nat → Nat → Nat) (cI cZ cF cO : ClassId) (e0 mi : Nat) (x sl sh fa lw dr dx dy tg tx ty wy wx wz br bo aa ro za zw zx zy zg bq bp dq dp lv k0 : Nat) (hK : va_K (dC, dI) classes (zTyO cI cZ cF cO) s) (hXL : zXL e0 mi (fun q : Nat => s.heap.size ≤ q) s) (L : List Nat) (f : Nat → va_E) (FA : Nat → Option Nat) (ea : Nat) (nd : Nat) (nt : Nat) (nw : Nat) (ul : Int32) (su : Int32) (mc9 : Int32) (rd : Int32) (rt : Int32) (rw : Int32) (P : Nat → Int32) (Q : Nat → Int32) (TX : Nat → Int32) (TY : Nat → Int32) (WX : Nat → Int32) (WY : Nat → Int32) (AR : Nat → Int32) (b1 : Int32) (b2 : Int32) (b3 : Int32) (b4 : Int32) (b5 : Int32) (b6 : Int32) (b7 : Int32) (b8 : Int32) (c1 : Int32) (c2 : Int32) (c3 : Int32) (c4 : Int32) (a1 : Int32) (a2 : Int32) (a3 : Int32) (a4 : Int32) (nv : Int32) (RA : Nat → Option Nat) (WT : Nat → Int32) (EX : Nat → Int32) (EY : Nat → Int32) (GR : Nat → Int32) (LV : Nat → Int32) (y1 : Int64) (y2 : Int64) (y3 : Int64) (y4 : Int64) (a : Nat → Nat) (I0 : Nat → Int32) (J0 : Nat → Int64) (kd : Nat → Int32) (st : Nat → Int32) (gb : Nat → Int32) (it : Nat → Int32) (pa : Nat → Int32) (pb : Nat → Int32) (rk : Nat → Int32) (wd : Nat → Int32) (tw : Nat → Int32) (tn : Nat → Int32) (mn : Nat → Int32) (cx : Nat → Int32) (cy : Nat → Int32) (sa : Nat → Int32) (shs : Nat → Int32) (wh : Nat → Int32) (of9 : Nat → Int32) (we : Nat → Int32) (la : Nat → Int32) (lb : Nat → Int32) (lc : Nat → Int32) (ld : Nat → Int32) (P0 : Nat → Int32) (Q0 : Nat → Int32) (S0 : Nat → Int32) (ox : Nat → Int32) (oy : Nat → Int32) (mt : Nat → Int32) (wi : Nat → Int32) (ins : Nat → Int32) (T0 : Nat → Int32) (fl : Nat → Int32) (mk : Nat → Int32) (jx : Nat → Int32) (jy : Nat → Int32) (gr : Nat → Int32) (bs : Nat) (dn : Nat) (T : Nat) (ft : Nat) (Sn : Nat) (AD : Nat) (C : Nat) (ln : Nat) (FT : Nat → Nat) (cc : Nat → Nat) (W9 : Nat → Nat) (V : Nat → Nat → Nat → Int32) (VX : Nat → Nat → Int32) (VY : Nat → Nat → Int32) (cp cl U k9 : Nat) (hk9 : 6 * k9 + 6 ≤ L9) (hL9 : L9 ≤ 3072) (f0 : Nat) {H : Heap} {locs : List Loc} {ls : Array Slot} (hPD : zPD (dC, dI) classes (fun q : Nat => s.heap.size ≤ q) (((oc8 x (.ref sh) (.ref lw) (.ref ro) (.ref bq) (.ref bp) (.ref dq) (.ref dp) (.ref lv) (.ref sl) (nI dn) (nI bs) ul su) :: (oc10 sl mc9 (.ref ea) (nI T)) :: (oc7 sh (.ref fa) (nI ft)) :: (oq fa cF 200 FA) :: (oc3 lw (.ref dr) (.ref tg) (.ref wy) (.ref br) (.ref bo) (.ref aa)) :: (oc6 dr (.ref dx) (.ref dy) (nI nd) rd) :: (oa dx cI 40 P) :: (oa dy cI 40 Q) :: (oc6 tg (.ref tx) (.ref ty) (nI nt) rt) :: (oa tx cI 3 TX) :: (oa ty cI 3 TY) :: (oc6 wy (.ref wx) (.ref wz) (nI nw) rw) :: (oa wx cI 2 WX) :: (oa wz cI 2 WY) :: (oc0 br b1 b2 b3 b4) :: (oc0 bo b5 b6 b7 b8) :: (oa aa cI 40 AR) :: (oc5 ro (.ref za) (.ref zw) (.ref zx) (.ref zy) (.ref zg) nv) :: (oq za cF 200 RA) :: (oa zw cI 200 WT) :: (oa zx cI 400 EX) :: (oa zy cI 400 EY) :: (oa zg cI 400 GR) :: (oc0 bq c1 c2 c3 c4) :: (oc0 bp a1 a2 a3 a4) :: (oc2 dq y1 y2) :: (oc2 dp y3 y4) :: (oa lv cZ 200 LV) :: (om k0 a (upd I0 26 (nI ln)) J0) :: (oa (a 1) cI 201 kd) :: (oa (a 5) cI 201 st) :: (oa (a 7) cI 201 gb) :: (oa (a 10) cI 201 it) :: (oa (a 8) cI 201 pa) :: (oa (a 9) cI 201 pb) :: (oa (a 2) cI 201 rk) :: (oa (a 3) cI 201 wd) :: (oa (a 4) cI 201 tw) :: (oa (a 6) cZ 201 tn) :: (oa (a 11) cI 201 mn) :: (oa (a 12) cI 8040 cx) :: (oa (a 13) cI 8040 cy) :: (oa (a 27) cI 516 sa) :: (oa (a 28) cI (4096 * cp) shs) :: (oa (a 16) cI 514 wh) :: (oa (a 17) cI 514 of9) :: (oa (a 18) cI 514 we) :: (oa (a 22) cI (64 * cl) la) :: (oa (a 23) cI (64 * cl) lb) :: (oa (a 24) cI (64 * cl) lc) :: (oa (a 25) cI (64 * cl) ld) :: (oa (a 29) cI 42 P0) :: (oa (a 30) cI 42 Q0) :: (oa (a 32) cI 8 S0) :: (oa (a 33) cI 42 ox) :: (oa (a 34) cI 42 oy) :: (oa (a 37) cZ 201 mt) :: (oa (a 38) cZ 201 wi) :: (oa (a 39) cZ 8040 ins) :: (oa (a 40) cI 6 T0) :: (oa (a 43) cZ 40 fl) :: (oa (a 50) cZ 201 mk) :: (oa (a 51) cI 402 jx) :: (oa (a 52) cI 402 jy) :: (oa (a 53) cI 402 gr) :: []) ++ va_pl L f) H) (hS : va_S (fun q : Nat => s.heap.size ≤ q) s.heap H locs) (hl : lv_has ls 4 [(3, .int (nI (6 * k9))), (2, .ref k0), (1, .ref x), (0, .ref b)]) (hB : shB cI cO L f e0 FA ea bs dn T ft FT V VX VY tn rk wd tw pa pb wh of9 we kd st gb it mn cx cy) (hI : INV k9 Sn AD C cc W9 bs T ft cp ln cl FT V VX VY tn rk wd tw pa pb kd st it mn cx cy sa shs lb lc) (hM : I0 0 = nI ft ∧ I0 19 = nI dn ∧ I0 20 = nI (T - dn) ∧ I0 21 = nI bs) (hU : U ≤ Sn * (28 * (AD + C) + 1000) + 200 * (AD + C)) (hf0 : f0 < ft) (hv1 : xs (6 * k9 + 1) = nI f0) (hbad : ¬ (0 ≤ (xs (6 * k9 + 2)).toInt ∧ (xs (6 * k9 + 2)).toInt < ((nN (mn f0) : Nat) : Int) ∧ (st f0).toInt = 1 ∧ -200 ≤ (xs (6 * k9 + 3)).toInt ∧ (xs (6 * k9 + 3)).toInt ≤ 200 ∧ -200 ≤ (xs (6 * k9 + 4)).toInt ∧ (xs (6 * k9 + 4)).toInt ≤ 200 ∧ 0 ≤ (xs (6 * k9 + 5)).toInt ∧ (xs (6 * k9 + 5)).toInt ≤ 20 ∧ (tn f0).toInt = 0)) (hnext : ∀ (cp1 cl1 U1 : Nat) (H : Heap) (locs : List Loc) (ls : Array Slot), lawI s dC dI cI cZ cF cO e0 mi x sl sh fa lw dr dx dy tg tx ty wy wx wz br bo aa ro za zw zx zy zg bq bp dq dp lv k0 (k9 + 1) cp1 cl1 U1 H → va_S (fun q : Nat => s.heap.size ≤ q) s.heap H locs → lv_has ls 4 [(3, .int (nI (6 * k9))), (2, .ref k0), (1, .ref x), (0, .ref b)] → W p l e room_1 s m #[Value.ref b] below meth c H locs (1000 + 1010 * (k9 + 1) + cp1 + 4 * cl1) (45000 + 8192 * cp1 + 512 * cl1 + U1) (lw_Z below #[Value.ref b] s) (F0 m 1081 ls [])) : W p l e room_1 s m #[Value.ref b] below meth c H locs (1000 + 1010 * k9 + cp + 4 * cl) (45000 + 8192 * cp + 512 * cl + U) (lw_Z below #[Value.ref b] s) (F0 m 362 ls []) := by
  obtain ⟨hP, hD⟩ := hPD
  obtain ⟨hx, hb, hr, hml, hown, hts1, hX, hbl, hlocks, hgv⟩ := id C0
  have hts : ∀ w9 ∈ ws0, w9.before #[Value.ref b] s = true := fun w9 h => hts1 w9 (List.mem_filter.mp h).1
  have hA : ∀ q : Nat, s.heap.size ≤ q → (fun q : Nat => s.heap.size ≤ q) q := fun _ h => h
  have hbA : ¬ (fun q : Nat => s.heap.size ≤ q) b := Nat.not_le.mpr hbl
  have hXN := hXL.1
  have hK3 := hK.sub [0, 1, 2] rfl
  obtain ⟨hm0, hm19, hm20, hm21⟩ := hM
  have hpo := shB_po hB
  have hK512 : k9 + 1 ≤ 512 := r9_k hk9 hL9
  have hwfS := hI.1.1
  have hbdC := hI.1.2.2.1
  have hT0 := hI.1.2.2.2
  have hd9 := hpo.1
  have h200t : ∀ t, bs ≤ t → t ≤ T → FT t ≤ 200 := fun t t1 t2 => Nat.le_trans (hpo.2.1 t T t1 t2 (Nat.le_refl _)) hd9.2.2.2.2
  have h200f : ft ≤ 200 := (by rw [hd9.2.2.2.1]; exact h200t dn hd9.1 hd9.2.1)
  have hrkA : ∀ q, lvF ft st tn q → 0 ≤ (rk q).toInt ∧ (rk q).toInt ≤ 9 := fun q hq => (hI.1.2.1 q (Nat.lt_of_lt_of_le hq.1 (by rw [hd9.2.2.2.1]; exact hpo.2.1 dn T hd9.1 hd9.2.1 (Nat.le_refl _)))).1
  have hwdA : ∀ q, q < ft → 0 ≤ (wd q).toInt ∧ (wd q).toInt ≤ 100 := fun q hq => (hI.1.2.1 q (Nat.lt_of_lt_of_le hq (by rw [hd9.2.2.2.1]; exact hpo.2.1 dn T hd9.1 hd9.2.1 (Nat.le_refl _)))).2
  have hcp5 := INV_cp hI (Nat.le_of_succ_le hK512)
  have hcp1 := hI.2.2.1.2.1
  have hcnt := hI.2.2.2.1
  have hlst := hI.2.2.2.2
  have hlb := mul_514 (a := Sn) (b := C) (r9_s hcnt.2.1 hK512).2.1
  have hftA := bdC_F hbdC
  have hrm := room_c (Sn := Sn) (AD := AD) (C := C) (c := cp) (cl := cl) (U := U) (r9_s hcnt.2.1 hK512).1 hI.2.2.1.2.2.2.2.2 hlst.2.2.2.1 hU
  have hrc : 1000 + 1010 * k9 + cp + 4 * cl ≤ 600000 := (by omega)
  have hmn9 : mn f0 = nI (nN (mn f0)) ∧ nN (mn f0) ≤ 40 := (by by_cases t0 : (tn f0).toInt = 0; exact ⟨((hwfS f0 hf0).2.2.1 t0).1.1, ((hwfS f0 hf0).2.2.1 t0).1.2.1⟩; rw [hT0 f0 (by omega) t0]; decide)
  refine la_6_1 l C0 hk9 hL9 hS hl (hv1) (rfl) (rfl) (rfl) (rfl) ?_
  obtain ⟨hPc, hDc, hFc⟩ := zt_3 hP hD hS hA
  refine zcall (st1 := [.int 0]) (va_runV (As := [.int (nI f0), .int (xs (6 * k9 + 2)), .int (xs (6 * k9 + 3)), .int (xs (6 * k9 + 4)), .int (xs (6 * k9 + 5))]) (rest := []) ⟨hx, hb, hml, hown, hts⟩ (k_shift_r l dC dI cI cZ cF H.size x sh lw ro bq bp dq dp lv sl (nI bs) ul su (nI dn) fa ft FA f0 L f kd st tn mn cx cy (xs (6 * k9 + 2)) (xs (6 * k9 + 3)) (xs (6 * k9 + 4)) (xs (6 * k9 + 5)) (h200f) (hf0) (shB_vw hB) (hbad)) (csV_241 hts rfl rfl ⟨Nat.le_of_ble_eq_true rfl, Nat.le_of_ble_eq_true rfl⟩) (zPV2 (q0 := 0) (ci := 8) hPc hDc hK3 hXN rfl rfl) rfl rfl hl.1 rfl (lv_room (Nat.le_of_ble_eq_true rfl)) dL_law_388 ⟨hrc, hrm⟩) hS hFc hFc rfl (fun t H locs ht hB hk1 hS => ?_)
  obtain ⟨q_1, q_2, hP1, hD1⟩ := hB
  rw [ht] at hP1
  obtain ⟨hP, hD⟩ := zs_3 (u0 := (oc8 x (.ref sh) (.ref lw) (.ref ro) (.ref bq) (.ref bp) (.ref dq) (.ref dp) (.ref lv) (.ref sl) (nI dn) (nI bs) q_1 q_2)) hP hD hk1 hFc hP1 hD1
  clear hk1 hPc hDc hFc hP1 hD1 ht
  refine lv_pop hx hb dL_law_391 rfl ?_
  refine la_6_2 l C0 hk9 hL9 hS hl (hv1) (rfl) (rfl) (rfl) (rfl) ?_
  obtain ⟨hPc, hDc, hFc⟩ := zt_18 hP hD hS hA
  refine zcall (st1 := [.int 0]) (va_runV (As := [.int (nI f0), .int (xs (6 * k9 + 2)), .int (xs (6 * k9 + 3)), .int (xs (6 * k9 + 4)), .int (xs (6 * k9 + 5))]) (rest := []) ⟨hx, hb, hml, hown, hts⟩ (k_M_shift_r l dC dI cI cZ cF H.size k0 a (upd I0 26 (nI ln)) J0 f0 ft (nN (mn f0)) (xs (6 * k9 + 2)) (xs (6 * k9 + 3)) (xs (6 * k9 + 4)) (xs (6 * k9 + 5)) st tn mn (hm0) (h200f) (by first | with_reducible assumption | omega) (hmn9.1) (hmn9.2) (by first | with_reducible assumption | omega)) (csV_242 hts rfl rfl ⟨Nat.le_of_ble_eq_true rfl, Nat.le_of_ble_eq_true rfl⟩) (zPV2 (q0 := 0) (ci := 9) hPc hDc hK3 hXN rfl rfl) rfl rfl hl.1 rfl (lv_room (Nat.le_of_ble_eq_true rfl)) dL_law_418 ⟨hrc, hrm⟩) hS hFc hFc rfl (fun t H locs ht hB hk1 hS => ?_)
  obtain ⟨q_3, hP1, hD1⟩ := hB
  rw [ht] at hP1
  obtain ⟨hP, hD⟩ := zs_18 (u28 := (om k0 a (upd (upd (upd I0 14 q_3) 15 (I0 15)) 26 (nI ln)) J0)) hP hD hk1 hFc hP1 hD1
  clear hk1 hPc hDc hFc hP1 hD1 ht
  refine lv_pop hx hb dL_law_421 rfl ?_
  refine lv_goto (tgt := 1081) hx hb dL_law_422 rfl ?_
  obtain ⟨hP9, hD9⟩ := And.intro hP hD
  refine W.widen (k := 1000 + 1010 * (k9 + 1) + cp + 4 * cl) (n := 45000 + 8192 * cp + 512 * cl + U) (by first | exact wdK | omega) (by first | exact Nat.le_refl _ | omega) ?_
  have e26 : upd (upd (upd (upd I0 14 q_3) 15 (I0 15)) 26 (nI ln)) 26 (nI ln) = (upd (upd (upd I0 14 q_3) 15 (I0 15)) 26 (nI ln)) := up_same rfl
  exact hnext cp cl U H locs ls (lawI_in L f FA ea nd nt nw q_1 q_2 mc9 rd rt rw P Q TX TY WX WY AR b1 b2 b3 b4 b5 b6 b7 b8 c1 c2 c3 c4 a1 a2 a3 a4 nv RA WT EX EY GR LV y1 y2 y3 y4 a (upd (upd (upd I0 14 q_3) 15 (I0 15)) 26 (nI ln)) J0 kd st gb it pa pb rk wd tw tn mn cx cy sa shs wh of9 we la lb lc ld P0 Q0 S0 ox oy mt wi ins T0 fl mk jx jy gr bs dn T ft Sn AD C ln FT cc W9 V VX VY (by rw [e26]; exact hP9) (by rw [e26]; exact hD9) (hB) (INV_K hI) ⟨hm0, hm19, hm20, hm21⟩ (by first | exact hU | omega)) hS (lv_sub hl [0, 1, 2, 3] rfl)
set_option maxHeartbeats 4000000 in
set_option maxRecDepth 100000 in
theorem lc_run_4 {p : Program} {e : Env} {s : State} {m : MethodId} {below : List Frame} {meth : Method} {c : Code} (l : Launch) {b L9 : Nat} {xs : Nat → Int32} (C0 : lw_At p s m meth c b L9 xs) (dC : Nat → ClassId) (dI : Nat → Nat → Nat) (cI cZ cF cO : ClassId) (e0 mi : Nat) (x sl sh fa lw dr dx dy tg tx ty wy wx wz br bo aa ro za zw zx zy zg bq bp dq dp lv k0 : Nat) (hK : va_K (dC, dI) classes (zTyO cI cZ cF cO) s) (hXL : zXL e0 mi (fun q : Nat => s.heap.size ≤ q) s) (L : List Nat) (f : Nat → va_E) (FA : Nat → Option Nat) (ea : Nat) (nd : Nat) (nt : Nat) (nw : Nat) (ul : Int32) (su : Int32) (mc9 : Int32) (rd : Int32) (rt : Int32) (rw : Int32) (P : Nat → Int32) (Q : Nat → Int32) (TX : Nat → Int32) (TY : Nat → Int32) (WX : Nat → Int32) (WY : Nat → Int32) (AR : Nat → Int32) (b1 : Int32) (b2 : Int32) (b3 : Int32) (b4 : Int32) (b5 : Int32) (b6 : Int32) (b7 : Int32) (b8 : Int32) (c1 : Int32) (c2 : Int32) (c3 : Int32) (c4 : Int32) (a1 : Int32) (a2 : Int32) (a3 : Int32) (a4 : Int32) (nv : Int32) (RA : Nat → Option Nat) (WT : Nat → Int32) (EX : Nat → Int32) (EY : Nat → Int32) (GR : Nat → Int32) (LV : Nat → Int32) (y1 : Int64) (y2 : Int64) (y3 : Int64) (y4 : Int64) (a : Nat → Nat) (I0 : Nat → Int32) (J0 : Nat → Int64) (kd : Nat → Int32) (st : Nat → Int32) (gb : Nat → Int32) (it : Nat → Int32) (pa : Nat → Int32) (pb : Nat → Int32) (rk : Nat → Int32) (wd : Nat → Int32) (tw : Nat → Int32) (tn : Nat → Int32) (mn : Nat → Int32) (cx : Nat → Int32) (cy : Nat → Int32) (sa : Nat → Int32) (shs : Nat → Int32) (wh : Nat → Int32) (of9 : Nat → Int32) (we : Nat → Int32) (la : Nat → Int32) (lb : Nat → Int32) (lc : Nat → Int32) (ld : Nat → Int32) (P0 : Nat → Int32) (Q0 : Nat → Int32) (S0 : Nat → Int32) (ox : Nat → Int32) (oy : Nat → Int32) (mt : Nat → Int32) (wi : Nat → Int32) (ins : Nat → Int32) (T0 : Nat → Int32) (fl : Nat → Int32) (mk : Nat → Int32) (jx : Nat → Int32) (jy : Nat → Int32) (gr : Nat → Int32) (bs : Nat) (dn : Nat) (T : Nat) (ft : Nat) (Sn : Nat) (AD : Nat) (C : Nat) (ln : Nat) (FT : Nat → Nat) (cc : Nat → Nat) (W9 : Nat → Nat) (V : Nat → Nat → Nat → Int32) (VX : Nat → Nat → Int32) (VY : Nat → Nat → Int32) (cp cl U k9 : Nat) (hk9 : 6 * k9 + 6 ≤ L9) (hL9 : L9 ≤ 3072) {H : Heap} {locs : List Loc} {ls : Array Slot} (hPD : zPD (dC, dI) classes (fun q : Nat => s.heap.size ≤ q) (((oc8 x (.ref sh) (.ref lw) (.ref ro) (.ref bq) (.ref bp) (.ref dq) (.ref dp) (.ref lv) (.ref sl) (nI dn) (nI bs) ul su) :: (oc10 sl mc9 (.ref ea) (nI T)) :: (oc7 sh (.ref fa) (nI ft)) :: (oq fa cF 200 FA) :: (oc3 lw (.ref dr) (.ref tg) (.ref wy) (.ref br) (.ref bo) (.ref aa)) :: (oc6 dr (.ref dx) (.ref dy) (nI nd) rd) :: (oa dx cI 40 P) :: (oa dy cI 40 Q) :: (oc6 tg (.ref tx) (.ref ty) (nI nt) rt) :: (oa tx cI 3 TX) :: (oa ty cI 3 TY) :: (oc6 wy (.ref wx) (.ref wz) (nI nw) rw) :: (oa wx cI 2 WX) :: (oa wz cI 2 WY) :: (oc0 br b1 b2 b3 b4) :: (oc0 bo b5 b6 b7 b8) :: (oa aa cI 40 AR) :: (oc5 ro (.ref za) (.ref zw) (.ref zx) (.ref zy) (.ref zg) nv) :: (oq za cF 200 RA) :: (oa zw cI 200 WT) :: (oa zx cI 400 EX) :: (oa zy cI 400 EY) :: (oa zg cI 400 GR) :: (oc0 bq c1 c2 c3 c4) :: (oc0 bp a1 a2 a3 a4) :: (oc2 dq y1 y2) :: (oc2 dp y3 y4) :: (oa lv cZ 200 LV) :: (om k0 a (upd I0 26 (nI ln)) J0) :: (oa (a 1) cI 201 kd) :: (oa (a 5) cI 201 st) :: (oa (a 7) cI 201 gb) :: (oa (a 10) cI 201 it) :: (oa (a 8) cI 201 pa) :: (oa (a 9) cI 201 pb) :: (oa (a 2) cI 201 rk) :: (oa (a 3) cI 201 wd) :: (oa (a 4) cI 201 tw) :: (oa (a 6) cZ 201 tn) :: (oa (a 11) cI 201 mn) :: (oa (a 12) cI 8040 cx) :: (oa (a 13) cI 8040 cy) :: (oa (a 27) cI 516 sa) :: (oa (a 28) cI (4096 * cp) shs) :: (oa (a 16) cI 514 wh) :: (oa (a 17) cI 514 of9) :: (oa (a 18) cI 514 we) :: (oa (a 22) cI (64 * cl) la) :: (oa (a 23) cI (64 * cl) lb) :: (oa (a 24) cI (64 * cl) lc) :: (oa (a 25) cI (64 * cl) ld) :: (oa (a 29) cI 42 P0) :: (oa (a 30) cI 42 Q0) :: (oa (a 32) cI 8 S0) :: (oa (a 33) cI 42 ox) :: (oa (a 34) cI 42 oy) :: (oa (a 37) cZ 201 mt) :: (oa (a 38) cZ 201 wi) :: (oa (a 39) cZ 8040 ins) :: (oa (a 40) cI 6 T0) :: (oa (a 43) cZ 40 fl) :: (oa (a 50) cZ 201 mk) :: (oa (a 51) cI 402 jx) :: (oa (a 52) cI 402 jy) :: (oa (a 53) cI 402 gr) :: []) ++ va_pl L f) H) (hS : va_S (fun q : Nat => s.heap.size ≤ q) s.heap H locs) (hl : lv_has ls 4 [(3, .int (nI (6 * k9))), (2, .ref k0), (1, .ref x), (0, .ref b)]) (hB : shB cI cO L f e0 FA ea bs dn T ft FT V VX VY tn rk wd tw pa pb wh of9 we kd st gb it mn cx cy) (hI : INV k9 Sn AD C cc W9 bs T ft cp ln cl FT V VX VY tn rk wd tw pa pb kd st it mn cx cy sa shs lb lc) (hM : I0 0 = nI ft ∧ I0 19 = nI dn ∧ I0 20 = nI (T - dn) ∧ I0 21 = nI bs) (hU : U ≤ Sn * (28 * (AD + C) + 1000) + 200 * (AD + C)) (hneg : (xs (6 * k9 + 1)).toInt < 0) (hnext : ∀ (cp1 cl1 U1 : Nat) (H : Heap) (locs : List Loc) (ls : Array Slot), lawI s dC dI cI cZ cF cO e0 mi x sl sh fa lw dr dx dy tg tx ty wy wx wz br bo aa ro za zw zx zy zg bq bp dq dp lv k0 (k9 + 1) cp1 cl1 U1 H → va_S (fun q : Nat => s.heap.size ≤ q) s.heap H locs → lv_has ls 4 [(3, .int (nI (6 * k9))), (2, .ref k0), (1, .ref x), (0, .ref b)] → W p l e room_1 s m #[Value.ref b] below meth c H locs (1000 + 1010 * (k9 + 1) + cp1 + 4 * cl1) (45000 + 8192 * cp1 + 512 * cl1 + U1) (lw_Z below #[Value.ref b] s) (F0 m 1081 ls [])) : W p l e room_1 s m #[Value.ref b] below meth c H locs (1000 + 1010 * k9 + cp + 4 * cl) (45000 + 8192 * cp + 512 * cl + U) (lw_Z below #[Value.ref b] s) (F0 m 593 ls []) := by
  obtain ⟨hP, hD⟩ := hPD
  obtain ⟨hx, hb, hr, hml, hown, hts1, hX, hbl, hlocks, hgv⟩ := id C0
  have hts : ∀ w9 ∈ ws0, w9.before #[Value.ref b] s = true := fun w9 h => hts1 w9 (List.mem_filter.mp h).1
  have hA : ∀ q : Nat, s.heap.size ≤ q → (fun q : Nat => s.heap.size ≤ q) q := fun _ h => h
  have hbA : ¬ (fun q : Nat => s.heap.size ≤ q) b := Nat.not_le.mpr hbl
  have hXN := hXL.1
  have hK3 := hK.sub [0, 1, 2] rfl
  obtain ⟨hm0, hm19, hm20, hm21⟩ := hM
  have hpo := shB_po hB
  have hK512 : k9 + 1 ≤ 512 := r9_k hk9 hL9
  have hwfS := hI.1.1
  have hbdC := hI.1.2.2.1
  have hT0 := hI.1.2.2.2
  have hd9 := hpo.1
  have h200t : ∀ t, bs ≤ t → t ≤ T → FT t ≤ 200 := fun t t1 t2 => Nat.le_trans (hpo.2.1 t T t1 t2 (Nat.le_refl _)) hd9.2.2.2.2
  have h200f : ft ≤ 200 := (by rw [hd9.2.2.2.1]; exact h200t dn hd9.1 hd9.2.1)
  have hrkA : ∀ q, lvF ft st tn q → 0 ≤ (rk q).toInt ∧ (rk q).toInt ≤ 9 := fun q hq => (hI.1.2.1 q (Nat.lt_of_lt_of_le hq.1 (by rw [hd9.2.2.2.1]; exact hpo.2.1 dn T hd9.1 hd9.2.1 (Nat.le_refl _)))).1
  have hwdA : ∀ q, q < ft → 0 ≤ (wd q).toInt ∧ (wd q).toInt ≤ 100 := fun q hq => (hI.1.2.1 q (Nat.lt_of_lt_of_le hq (by rw [hd9.2.2.2.1]; exact hpo.2.1 dn T hd9.1 hd9.2.1 (Nat.le_refl _)))).2
  have hcp5 := INV_cp hI (Nat.le_of_succ_le hK512)
  have hcp1 := hI.2.2.1.2.1
  have hcnt := hI.2.2.2.1
  have hlst := hI.2.2.2.2
  have hlb := mul_514 (a := Sn) (b := C) (r9_s hcnt.2.1 hK512).2.1
  have hftA := bdC_F hbdC
  have hrm := room_c (Sn := Sn) (AD := AD) (C := C) (c := cp) (cl := cl) (U := U) (r9_s hcnt.2.1 hK512).1 hI.2.2.1.2.2.2.2.2 hlst.2.2.2.1 hU
  have hrc : 1000 + 1010 * k9 + cp + 4 * cl ≤ 600000 := (by omega)
  refine la_13_1 l C0 hk9 hL9 hS hl (rfl) ?_
  obtain ⟨hPc, hDc, hFc⟩ := zt_13 hP hD hS hA
  refine zcall (st1 := [.int (-1)]) (va_runV (As := [.int (xs (6 * k9 + 1))]) (rest := []) ⟨hx, hb, hml, hown, hts⟩ (k_run_4 l dC dI cI cZ cF H.size x sh lw ro bq bp dq dp lv sl (nI bs) ul su (nI dn) (xs (6 * k9 + 1)) (hneg)) (csV_259 hts rfl rfl ⟨Nat.le_of_ble_eq_true rfl, Nat.le_of_ble_eq_true rfl⟩) (zPV2 (q0 := 0) (ci := 8) hPc hDc hK3 hXN rfl rfl) rfl rfl hl.1 rfl (lv_room (Nat.le_of_ble_eq_true rfl)) dL_law_599 ⟨hrc, hrm⟩) hS hFc hFc rfl (fun t H locs ht hB hk1 hS => ?_)
  obtain ⟨hP1, hD1⟩ := hB
  rw [ht] at hP1
  obtain ⟨hP, hD⟩ := zs_13 (u0 := (oc8 x (.ref sh) (.ref lw) (.ref ro) (.ref bq) (.ref bp) (.ref dq) (.ref dp) (.ref lv) (.ref sl) (nI dn) (nI bs) ul 4)) hP hD hk1 hFc hP1 hD1
  clear hk1 hPc hDc hFc hP1 hD1 ht
  refine lv_pop hx hb dL_law_602 rfl ?_
  refine la_13_2 l C0 hk9 hL9 hS hl (rfl) ?_
  obtain ⟨hPc, hDc, hFc⟩ := zt_2 hP hD hS hA
  refine zcall (st1 := [.int (-1)]) (va_runV (As := [.int (xs (6 * k9 + 1))]) (rest := []) ⟨hx, hb, hml, hown, hts⟩ (k_M_run_4 l dC dI cI cZ cF H.size k0 a (upd I0 26 (nI ln)) J0 (xs (6 * k9 + 1)) (hneg)) (csV_260 hts rfl rfl ⟨Nat.le_of_ble_eq_true rfl, Nat.le_of_ble_eq_true rfl⟩) (zPV2 (q0 := 0) (ci := 9) hPc hDc hK3 hXN rfl rfl) rfl rfl hl.1 rfl (lv_room (Nat.le_of_ble_eq_true rfl)) dL_law_609 ⟨hrc, hrm⟩) hS hFc hFc rfl (fun t H locs ht hB hk1 hS => ?_)
  obtain ⟨hP1, hD1⟩ := hB
  rw [ht] at hP1
  obtain ⟨hP, hD⟩ := zs_2 (u28 := (om k0 a (upd (upd (upd I0 14 4) 15 (I0 15)) 26 (nI ln)) J0)) hP hD hk1 hFc hP1 hD1
  clear hk1 hPc hDc hFc hP1 hD1 ht
  refine lv_pop hx hb dL_law_612 rfl ?_
  refine lv_goto (tgt := 1081) hx hb dL_law_613 rfl ?_
  obtain ⟨hP9, hD9⟩ := And.intro hP hD
  refine W.widen (k := 1000 + 1010 * (k9 + 1) + cp + 4 * cl) (n := 45000 + 8192 * cp + 512 * cl + U) (by first | exact wdK | omega) (by first | exact Nat.le_refl _ | omega) ?_
  have e26 : upd (upd (upd (upd I0 14 4) 15 (I0 15)) 26 (nI ln)) 26 (nI ln) = (upd (upd (upd I0 14 4) 15 (I0 15)) 26 (nI ln)) := up_same rfl
  exact hnext cp cl U H locs ls (lawI_in L f FA ea nd nt nw ul 4 mc9 rd rt rw P Q TX TY WX WY AR b1 b2 b3 b4 b5 b6 b7 b8 c1 c2 c3 c4 a1 a2 a3 a4 nv RA WT EX EY GR LV y1 y2 y3 y4 a (upd (upd (upd I0 14 4) 15 (I0 15)) 26 (nI ln)) J0 kd st gb it pa pb rk wd tw tn mn cx cy sa shs wh of9 we la lb lc ld P0 Q0 S0 ox oy mt wi ins T0 fl mk jx jy gr bs dn T ft Sn AD C ln FT cc W9 V VX VY (by rw [e26]; exact hP9) (by rw [e26]; exact hD9) (hB) (INV_K hI) ⟨hm0, hm19, hm20, hm21⟩ (by first | exact hU | omega)) hS (lv_sub hl [0, 1, 2, 3] rfl)
end
section
set_option maxHeartbeats 4000000 in
set_option maxRecDepth 100000 in
theorem lc_inside_x {p : Program} {e : Env} {s : State} {m : MethodId} {below : List Frame} {meth : Method} {c : Code} (l : Launch) {b L9 : Nat} {xs : Nat → Int32} (C0 : lw_At p s m meth c b L9 xs) (dC : Nat → ClassId) (dI : Nat → Nat → Nat) (cI cZ cF cO : ClassId) (e0 mi : Nat) (x sl sh fa lw dr dx dy tg tx ty wy wx wz br bo aa ro za zw zx zy zg bq bp dq dp lv k0 : Nat) (hK : va_K (dC, dI) classes (zTyO cI cZ cF cO) s) (hXL : zXL e0 mi (fun q : Nat => s.heap.size ≤ q) s) (L : List Nat) (f : Nat → va_E) (FA : Nat → Option Nat) (ea : Nat) (nd : Nat) (nt : Nat) (nw : Nat) (ul : Int32) (su : Int32) (mc9 : Int32) (rd : Int32) (rt : Int32) (rw : Int32) (P : Nat → Int32) (Q : Nat → Int32) (TX : Nat → Int32) (TY : Nat → Int32) (WX : Nat → Int32) (WY : Nat → Int32) (AR : Nat → Int32) (b1 : Int32) (b2 : Int32) (b3 : Int32) (b4 : Int32) (b5 : Int32) (b6 : Int32) (b7 : Int32) (b8 : Int32) (c1 : Int32) (c2 : Int32) (c3 : Int32) (c4 : Int32) (a1 : Int32) (a2 : Int32) (a3 : Int32) (a4 : Int32) (nv : Int32) (RA : Nat → Option Nat) (WT : Nat → Int32) (EX : Nat → Int32) (EY : Nat → Int32) (GR : Nat → Int32) (LV : Nat → Int32) (y1 : Int64) (y2 : Int64) (y3 : Int64) (y4 : Int64) (a : Nat → Nat) (I0 : Nat → Int32) (J0 : Nat → Int64) (kd : Nat → Int32) (st : Nat → Int32) (gb : Nat → Int32) (it : Nat → Int32) (pa : Nat → Int32) (pb : Nat → Int32) (rk : Nat → Int32) (wd : Nat → Int32) (tw : Nat → Int32) (tn : Nat → Int32) (mn : Nat → Int32) (cx : Nat → Int32) (cy : Nat → Int32) (sa : Nat → Int32) (shs : Nat → Int32) (wh : Nat → Int32) (of9 : Nat → Int32) (we : Nat → Int32) (la : Nat → Int32) (lb : Nat → Int32) (lc : Nat → Int32) (ld : Nat → Int32) (P0 : Nat → Int32) (Q0 : Nat → Int32) (S0 : Nat → Int32) (ox : Nat → Int32) (oy : Nat → Int32) (mt : Nat → Int32) (wi : Nat → Int32) (ins : Nat → Int32) (T0 : Nat → Int32) (fl : Nat → Int32) (mk : Nat → Int32) (jx : Nat → Int32) (jy : Nat → Int32) (gr : Nat → Int32) (bs : Nat) (dn : Nat) (T : Nat) (ft : Nat) (Sn : Nat) (AD : Nat) (C : Nat) (ln : Nat) (FT : Nat → Nat) (cc : Nat → Nat) (W9 : Nat → Nat) (V : Nat → Nat → Nat → Int32) (VX : Nat → Nat → Int32) (VY : Nat → Nat → Int32) (cp cl U k9 : Nat) (hk9 : 6 * k9 + 6 ≤ L9) (hL9 : L9 ≤ 3072) {H : Heap} {locs : List Loc} {ls : Array Slot} (hPD : zPD (dC, dI) classes (fun q : Nat => s.heap.size ≤ q) (((oc8 x (.ref sh) (.ref lw) (.ref ro) (.ref bq) (.ref bp) (.ref dq) (.ref dp) (.ref lv) (.ref sl) (nI dn) (nI bs) ul su) :: (oc10 sl mc9 (.ref ea) (nI T)) :: (oc7 sh (.ref fa) (nI ft)) :: (oq fa cF 200 FA) :: (oc3 lw (.ref dr) (.ref tg) (.ref wy) (.ref br) (.ref bo) (.ref aa)) :: (oc6 dr (.ref dx) (.ref dy) (nI nd) rd) :: (oa dx cI 40 P) :: (oa dy cI 40 Q) :: (oc6 tg (.ref tx) (.ref ty) (nI nt) rt) :: (oa tx cI 3 TX) :: (oa ty cI 3 TY) :: (oc6 wy (.ref wx) (.ref wz) (nI nw) rw) :: (oa wx cI 2 WX) :: (oa wz cI 2 WY) :: (oc0 br b1 b2 b3 b4) :: (oc0 bo b5 b6 b7 b8) :: (oa aa cI 40 AR) :: (oc5 ro (.ref za) (.ref zw) (.ref zx) (.ref zy) (.ref zg) nv) :: (oq za cF 200 RA) :: (oa zw cI 200 WT) :: (oa zx cI 400 EX) :: (oa zy cI 400 EY) :: (oa zg cI 400 GR) :: (oc0 bq c1 c2 c3 c4) :: (oc0 bp a1 a2 a3 a4) :: (oc2 dq y1 y2) :: (oc2 dp y3 y4) :: (oa lv cZ 200 LV) :: (om k0 a (upd I0 26 (nI ln)) J0) :: (oa (a 1) cI 201 kd) :: (oa (a 5) cI 201 st) :: (oa (a 7) cI 201 gb) :: (oa (a 10) cI 201 it) :: (oa (a 8) cI 201 pa) :: (oa (a 9) cI 201 pb) :: (oa (a 2) cI 201 rk) :: (oa (a 3) cI 201 wd) :: (oa (a 4) cI 201 tw) :: (oa (a 6) cZ 201 tn) :: (oa (a 11) cI 201 mn) :: (oa (a 12) cI 8040 cx) :: (oa (a 13) cI 8040 cy) :: (oa (a 27) cI 516 sa) :: (oa (a 28) cI (4096 * cp) shs) :: (oa (a 16) cI 514 wh) :: (oa (a 17) cI 514 of9) :: (oa (a 18) cI 514 we) :: (oa (a 22) cI (64 * cl) la) :: (oa (a 23) cI (64 * cl) lb) :: (oa (a 24) cI (64 * cl) lc) :: (oa (a 25) cI (64 * cl) ld) :: (oa (a 29) cI 42 P0) :: (oa (a 30) cI 42 Q0) :: (oa (a 32) cI 8 S0) :: (oa (a 33) cI 42 ox) :: (oa (a 34) cI 42 oy) :: (oa (a 37) cZ 201 mt) :: (oa (a 38) cZ 201 wi) :: (oa (a 39) cZ 8040 ins) :: (oa (a 40) cI 6 T0) :: (oa (a 43) cZ 40 fl) :: (oa (a 50) cZ 201 mk) :: (oa (a 51) cI 402 jx) :: (oa (a 52) cI 402 jy) :: (oa (a 53) cI 402 gr) :: []) ++ va_pl L f) H) (hS : va_S (fun q : Nat => s.heap.size ≤ q) s.heap H locs) (hl : lv_has ls 4 [(3, .int (nI (6 * k9))), (2, .ref k0), (1, .ref x), (0, .ref b)]) (hB : shB cI cO L f e0 FA ea bs dn T ft FT V VX VY tn rk wd tw pa pb wh of9 we kd st gb it mn cx cy) (hI : INV k9 Sn AD C cc W9 bs T ft cp ln cl FT V VX VY tn rk wd tw pa pb kd st it mn cx cy sa shs lb lc) (hM : I0 0 = nI ft ∧ I0 19 = nI dn ∧ I0 20 = nI (T - dn) ∧ I0 21 = nI bs) (hU : U ≤ Sn * (28 * (AD + C) + 1000) + 200 * (AD + C)) (hbad : ¬ (0 ≤ (xs (6 * k9 + 3)).toInt ∧ (xs (6 * k9 + 3)).toInt < ((ft : Nat) : Int))) (hnext : ∀ (cp1 cl1 U1 : Nat) (H : Heap) (locs : List Loc) (ls : Array Slot), lawI s dC dI cI cZ cF cO e0 mi x sl sh fa lw dr dx dy tg tx ty wy wx wz br bo aa ro za zw zx zy zg bq bp dq dp lv k0 (k9 + 1) cp1 cl1 U1 H → va_S (fun q : Nat => s.heap.size ≤ q) s.heap H locs → lv_has ls 4 [(3, .int (nI (6 * k9))), (2, .ref k0), (1, .ref x), (0, .ref b)] → W p l e room_1 s m #[Value.ref b] below meth c H locs (1000 + 1010 * (k9 + 1) + cp1 + 4 * cl1) (45000 + 8192 * cp1 + 512 * cl1 + U1) (lw_Z below #[Value.ref b] s) (F0 m 1081 ls [])) : W p l e room_1 s m #[Value.ref b] below meth c H locs (1000 + 1010 * k9 + cp + 4 * cl) (45000 + 8192 * cp + 512 * cl + U) (lw_Z below #[Value.ref b] s) (F0 m 675 ls []) := by
  obtain ⟨hP, hD⟩ := hPD
  obtain ⟨hx, hb, hr, hml, hown, hts1, hX, hbl, hlocks, hgv⟩ := id C0
  have hts : ∀ w9 ∈ ws0, w9.before #[Value.ref b] s = true := fun w9 h => hts1 w9 (List.mem_filter.mp h).1
  have hA : ∀ q : Nat, s.heap.size ≤ q → (fun q : Nat => s.heap.size ≤ q) q := fun _ h => h
  have hbA : ¬ (fun q : Nat => s.heap.size ≤ q) b := Nat.not_le.mpr hbl
  have hXN := hXL.1
  have hK3 := hK.sub [0, 1, 2] rfl
  obtain ⟨hm0, hm19, hm20, hm21⟩ := hM
  have hpo := shB_po hB
  have hK512 : k9 + 1 ≤ 512 := r9_k hk9 hL9
  have hwfS := hI.1.1
  have hbdC := hI.1.2.2.1
  have hT0 := hI.1.2.2.2
  have hd9 := hpo.1
  have h200t : ∀ t, bs ≤ t → t ≤ T → FT t ≤ 200 := fun t t1 t2 => Nat.le_trans (hpo.2.1 t T t1 t2 (Nat.le_refl _)) hd9.2.2.2.2
  have h200f : ft ≤ 200 := (by rw [hd9.2.2.2.1]; exact h200t dn hd9.1 hd9.2.1)
  have hrkA : ∀ q, lvF ft st tn q → 0 ≤ (rk q).toInt ∧ (rk q).toInt ≤ 9 := fun q hq => (hI.1.2.1 q (Nat.lt_of_lt_of_le hq.1 (by rw [hd9.2.2.2.1]; exact hpo.2.1 dn T hd9.1 hd9.2.1 (Nat.le_refl _)))).1
  have hwdA : ∀ q, q < ft → 0 ≤ (wd q).toInt ∧ (wd q).toInt ≤ 100 := fun q hq => (hI.1.2.1 q (Nat.lt_of_lt_of_le hq (by rw [hd9.2.2.2.1]; exact hpo.2.1 dn T hd9.1 hd9.2.1 (Nat.le_refl _)))).2
  have hcp5 := INV_cp hI (Nat.le_of_succ_le hK512)
  have hcp1 := hI.2.2.1.2.1
  have hcnt := hI.2.2.2.1
  have hlst := hI.2.2.2.2
  have hlb := mul_514 (a := Sn) (b := C) (r9_s hcnt.2.1 hK512).2.1
  have hftA := bdC_F hbdC
  have hrm := room_c (Sn := Sn) (AD := AD) (C := C) (c := cp) (cl := cl) (U := U) (r9_s hcnt.2.1 hK512).1 hI.2.2.1.2.2.2.2.2 hlst.2.2.2.1 hU
  have hrc : 1000 + 1010 * k9 + cp + 4 * cl ≤ 600000 := (by omega)
  have hefA : ∀ q, lvF ft st tn q → 1 ≤ eO (kd q).toInt (nN (mn q)) := fun q hq => eO_1 (wfS_kn hwfS q hq)
  refine la_17_1 l C0 hk9 hL9 hS hl (rfl) (rfl) (rfl) ?_
  obtain ⟨hPc, hDc, hFc⟩ := zt_3 hP hD hS hA
  refine zcall (st1 := [.int (-1)]) (va_runV (As := [.int (xs (6 * k9 + 1)), .int (xs (6 * k9 + 2)), .int (xs (6 * k9 + 3))]) (rest := []) ⟨hx, hb, hml, hown, hts⟩ (k_inside_z l dC dI cI cZ cF H.size x sh lw ro bq bp dq dp lv sl (nI bs) ul su (nI dn) fa ft FA L f kd st tn mn cx cy rk wd tw pa pb gb it (xs (6 * k9 + 3)) (xs (6 * k9 + 1)) (xs (6 * k9 + 2)) (h200f) (shB_va hB) (fun ⟨g, e, hg⟩ => nI_bad h200f hbad hg.1 e)) (csV_263 hts rfl rfl ⟨Nat.le_of_ble_eq_true rfl, Nat.le_of_ble_eq_true rfl⟩) (zPV2 (q0 := 0) (ci := 8) hPc hDc hK3 hXN rfl rfl) rfl rfl hl.1 rfl (lv_room (Nat.le_of_ble_eq_true rfl)) dL_law_691 ⟨hrc, hrm⟩) hS hFc hFc rfl (fun t H locs ht hB hk1 hS => ?_)
  obtain ⟨hP1, hD1⟩ := hB
  rw [ht] at hP1
  obtain ⟨hP, hD⟩ := zs_3  hP hD hk1 hFc hP1 hD1
  clear hk1 hPc hDc hFc hP1 hD1 ht
  refine lv_pop hx hb dL_law_694 rfl ?_
  refine la_17_2 l C0 hk9 hL9 hS hl (rfl) (rfl) (rfl) ?_
  obtain ⟨hPc, hDc, hFc⟩ := zt_2 hP hD hS hA
  refine zcall (st1 := [.int (-1)]) (va_runV (As := [.int (xs (6 * k9 + 1)), .int (xs (6 * k9 + 2)), .int (xs (6 * k9 + 3))]) (rest := []) ⟨hx, hb, hml, hown, hts⟩ (k_M_inside_x l dC dI cI cZ cF H.size k0 a (upd I0 26 (nI ln)) J0 ft (xs (6 * k9 + 1)) (xs (6 * k9 + 2)) (xs (6 * k9 + 3)) (hm0) (h200f) (hbad)) (csV_264 hts rfl rfl ⟨Nat.le_of_ble_eq_true rfl, Nat.le_of_ble_eq_true rfl⟩) (zPV2 (q0 := 0) (ci := 9) hPc hDc hK3 hXN rfl rfl) rfl rfl hl.1 rfl (lv_room (Nat.le_of_ble_eq_true rfl)) dL_law_711 ⟨hrc, hrm⟩) hS hFc hFc rfl (fun t H locs ht hB hk1 hS => ?_)
  obtain ⟨hP1, hD1⟩ := hB
  rw [ht] at hP1
  obtain ⟨hP, hD⟩ := zs_2  hP hD hk1 hFc hP1 hD1
  clear hk1 hPc hDc hFc hP1 hD1 ht
  refine lv_pop hx hb dL_law_714 rfl ?_
  refine lv_goto (tgt := 1081) hx hb dL_law_715 rfl ?_
  obtain ⟨hP9, hD9⟩ := And.intro hP hD
  refine W.widen (k := 1000 + 1010 * (k9 + 1) + cp + 4 * cl) (n := 45000 + 8192 * cp + 512 * cl + U) (by first | exact wdK | omega) (by first | exact Nat.le_refl _ | omega) ?_
  exact hnext cp cl U H locs ls (lawI_in L f FA ea nd nt nw ul su mc9 rd rt rw P Q TX TY WX WY AR b1 b2 b3 b4 b5 b6 b7 b8 c1 c2 c3 c4 a1 a2 a3 a4 nv RA WT EX EY GR LV y1 y2 y3 y4 a I0 J0 kd st gb it pa pb rk wd tw tn mn cx cy sa shs wh of9 we la lb lc ld P0 Q0 S0 ox oy mt wi ins T0 fl mk jx jy gr bs dn T ft Sn AD C ln FT cc W9 V VX VY hP9 hD9 (hB) (INV_K hI) ⟨hm0, hm19, hm20, hm21⟩ (by first | exact hU | omega)) hS (lv_sub hl [0, 1, 2, 3] rfl)
set_option maxHeartbeats 4000000 in
set_option maxRecDepth 100000 in
theorem lc_inside_z {p : Program} {e : Env} {s : State} {m : MethodId} {below : List Frame} {meth : Method} {c : Code} (l : Launch) {b L9 : Nat} {xs : Nat → Int32} (C0 : lw_At p s m meth c b L9 xs) (dC : Nat → ClassId) (dI : Nat → Nat → Nat) (cI cZ cF cO : ClassId) (e0 mi : Nat) (x sl sh fa lw dr dx dy tg tx ty wy wx wz br bo aa ro za zw zx zy zg bq bp dq dp lv k0 : Nat) (hK : va_K (dC, dI) classes (zTyO cI cZ cF cO) s) (hXL : zXL e0 mi (fun q : Nat => s.heap.size ≤ q) s) (L : List Nat) (f : Nat → va_E) (FA : Nat → Option Nat) (ea : Nat) (nd : Nat) (nt : Nat) (nw : Nat) (ul : Int32) (su : Int32) (mc9 : Int32) (rd : Int32) (rt : Int32) (rw : Int32) (P : Nat → Int32) (Q : Nat → Int32) (TX : Nat → Int32) (TY : Nat → Int32) (WX : Nat → Int32) (WY : Nat → Int32) (AR : Nat → Int32) (b1 : Int32) (b2 : Int32) (b3 : Int32) (b4 : Int32) (b5 : Int32) (b6 : Int32) (b7 : Int32) (b8 : Int32) (c1 : Int32) (c2 : Int32) (c3 : Int32) (c4 : Int32) (a1 : Int32) (a2 : Int32) (a3 : Int32) (a4 : Int32) (nv : Int32) (RA : Nat → Option Nat) (WT : Nat → Int32) (EX : Nat → Int32) (EY : Nat → Int32) (GR : Nat → Int32) (LV : Nat → Int32) (y1 : Int64) (y2 : Int64) (y3 : Int64) (y4 : Int64) (a : Nat → Nat) (I0 : Nat → Int32) (J0 : Nat → Int64) (kd : Nat → Int32) (st : Nat → Int32) (gb : Nat → Int32) (it : Nat → Int32) (pa : Nat → Int32) (pb : Nat → Int32) (rk : Nat → Int32) (wd : Nat → Int32) (tw : Nat → Int32) (tn : Nat → Int32) (mn : Nat → Int32) (cx : Nat → Int32) (cy : Nat → Int32) (sa : Nat → Int32) (shs : Nat → Int32) (wh : Nat → Int32) (of9 : Nat → Int32) (we : Nat → Int32) (la : Nat → Int32) (lb : Nat → Int32) (lc : Nat → Int32) (ld : Nat → Int32) (P0 : Nat → Int32) (Q0 : Nat → Int32) (S0 : Nat → Int32) (ox : Nat → Int32) (oy : Nat → Int32) (mt : Nat → Int32) (wi : Nat → Int32) (ins : Nat → Int32) (T0 : Nat → Int32) (fl : Nat → Int32) (mk : Nat → Int32) (jx : Nat → Int32) (jy : Nat → Int32) (gr : Nat → Int32) (bs : Nat) (dn : Nat) (T : Nat) (ft : Nat) (Sn : Nat) (AD : Nat) (C : Nat) (ln : Nat) (FT : Nat → Nat) (cc : Nat → Nat) (W9 : Nat → Nat) (V : Nat → Nat → Nat → Int32) (VX : Nat → Nat → Int32) (VY : Nat → Nat → Int32) (cp cl U k9 : Nat) (hk9 : 6 * k9 + 6 ≤ L9) (hL9 : L9 ≤ 3072) (f0 : Nat) {H : Heap} {locs : List Loc} {ls : Array Slot} (hPD : zPD (dC, dI) classes (fun q : Nat => s.heap.size ≤ q) (((oc8 x (.ref sh) (.ref lw) (.ref ro) (.ref bq) (.ref bp) (.ref dq) (.ref dp) (.ref lv) (.ref sl) (nI dn) (nI bs) ul su) :: (oc10 sl mc9 (.ref ea) (nI T)) :: (oc7 sh (.ref fa) (nI ft)) :: (oq fa cF 200 FA) :: (oc3 lw (.ref dr) (.ref tg) (.ref wy) (.ref br) (.ref bo) (.ref aa)) :: (oc6 dr (.ref dx) (.ref dy) (nI nd) rd) :: (oa dx cI 40 P) :: (oa dy cI 40 Q) :: (oc6 tg (.ref tx) (.ref ty) (nI nt) rt) :: (oa tx cI 3 TX) :: (oa ty cI 3 TY) :: (oc6 wy (.ref wx) (.ref wz) (nI nw) rw) :: (oa wx cI 2 WX) :: (oa wz cI 2 WY) :: (oc0 br b1 b2 b3 b4) :: (oc0 bo b5 b6 b7 b8) :: (oa aa cI 40 AR) :: (oc5 ro (.ref za) (.ref zw) (.ref zx) (.ref zy) (.ref zg) nv) :: (oq za cF 200 RA) :: (oa zw cI 200 WT) :: (oa zx cI 400 EX) :: (oa zy cI 400 EY) :: (oa zg cI 400 GR) :: (oc0 bq c1 c2 c3 c4) :: (oc0 bp a1 a2 a3 a4) :: (oc2 dq y1 y2) :: (oc2 dp y3 y4) :: (oa lv cZ 200 LV) :: (om k0 a (upd I0 26 (nI ln)) J0) :: (oa (a 1) cI 201 kd) :: (oa (a 5) cI 201 st) :: (oa (a 7) cI 201 gb) :: (oa (a 10) cI 201 it) :: (oa (a 8) cI 201 pa) :: (oa (a 9) cI 201 pb) :: (oa (a 2) cI 201 rk) :: (oa (a 3) cI 201 wd) :: (oa (a 4) cI 201 tw) :: (oa (a 6) cZ 201 tn) :: (oa (a 11) cI 201 mn) :: (oa (a 12) cI 8040 cx) :: (oa (a 13) cI 8040 cy) :: (oa (a 27) cI 516 sa) :: (oa (a 28) cI (4096 * cp) shs) :: (oa (a 16) cI 514 wh) :: (oa (a 17) cI 514 of9) :: (oa (a 18) cI 514 we) :: (oa (a 22) cI (64 * cl) la) :: (oa (a 23) cI (64 * cl) lb) :: (oa (a 24) cI (64 * cl) lc) :: (oa (a 25) cI (64 * cl) ld) :: (oa (a 29) cI 42 P0) :: (oa (a 30) cI 42 Q0) :: (oa (a 32) cI 8 S0) :: (oa (a 33) cI 42 ox) :: (oa (a 34) cI 42 oy) :: (oa (a 37) cZ 201 mt) :: (oa (a 38) cZ 201 wi) :: (oa (a 39) cZ 8040 ins) :: (oa (a 40) cI 6 T0) :: (oa (a 43) cZ 40 fl) :: (oa (a 50) cZ 201 mk) :: (oa (a 51) cI 402 jx) :: (oa (a 52) cI 402 jy) :: (oa (a 53) cI 402 gr) :: []) ++ va_pl L f) H) (hS : va_S (fun q : Nat => s.heap.size ≤ q) s.heap H locs) (hl : lv_has ls 4 [(3, .int (nI (6 * k9))), (2, .ref k0), (1, .ref x), (0, .ref b)]) (hB : shB cI cO L f e0 FA ea bs dn T ft FT V VX VY tn rk wd tw pa pb wh of9 we kd st gb it mn cx cy) (hI : INV k9 Sn AD C cc W9 bs T ft cp ln cl FT V VX VY tn rk wd tw pa pb kd st it mn cx cy sa shs lb lc) (hM : I0 0 = nI ft ∧ I0 19 = nI dn ∧ I0 20 = nI (T - dn) ∧ I0 21 = nI bs) (hU : U ≤ Sn * (28 * (AD + C) + 1000) + 200 * (AD + C)) (hf0 : f0 < ft) (hv1 : xs (6 * k9 + 3) = nI f0) (hbad : ¬ lvF ft st tn f0) (hnext : ∀ (cp1 cl1 U1 : Nat) (H : Heap) (locs : List Loc) (ls : Array Slot), lawI s dC dI cI cZ cF cO e0 mi x sl sh fa lw dr dx dy tg tx ty wy wx wz br bo aa ro za zw zx zy zg bq bp dq dp lv k0 (k9 + 1) cp1 cl1 U1 H → va_S (fun q : Nat => s.heap.size ≤ q) s.heap H locs → lv_has ls 4 [(3, .int (nI (6 * k9))), (2, .ref k0), (1, .ref x), (0, .ref b)] → W p l e room_1 s m #[Value.ref b] below meth c H locs (1000 + 1010 * (k9 + 1) + cp1 + 4 * cl1) (45000 + 8192 * cp1 + 512 * cl1 + U1) (lw_Z below #[Value.ref b] s) (F0 m 1081 ls [])) : W p l e room_1 s m #[Value.ref b] below meth c H locs (1000 + 1010 * k9 + cp + 4 * cl) (45000 + 8192 * cp + 512 * cl + U) (lw_Z below #[Value.ref b] s) (F0 m 675 ls []) := by
  obtain ⟨hP, hD⟩ := hPD
  obtain ⟨hx, hb, hr, hml, hown, hts1, hX, hbl, hlocks, hgv⟩ := id C0
  have hts : ∀ w9 ∈ ws0, w9.before #[Value.ref b] s = true := fun w9 h => hts1 w9 (List.mem_filter.mp h).1
  have hA : ∀ q : Nat, s.heap.size ≤ q → (fun q : Nat => s.heap.size ≤ q) q := fun _ h => h
  have hbA : ¬ (fun q : Nat => s.heap.size ≤ q) b := Nat.not_le.mpr hbl
  have hXN := hXL.1
  have hK3 := hK.sub [0, 1, 2] rfl
  obtain ⟨hm0, hm19, hm20, hm21⟩ := hM
  have hpo := shB_po hB
  have hK512 : k9 + 1 ≤ 512 := r9_k hk9 hL9
  have hwfS := hI.1.1
  have hbdC := hI.1.2.2.1
  have hT0 := hI.1.2.2.2
  have hd9 := hpo.1
  have h200t : ∀ t, bs ≤ t → t ≤ T → FT t ≤ 200 := fun t t1 t2 => Nat.le_trans (hpo.2.1 t T t1 t2 (Nat.le_refl _)) hd9.2.2.2.2
  have h200f : ft ≤ 200 := (by rw [hd9.2.2.2.1]; exact h200t dn hd9.1 hd9.2.1)
  have hrkA : ∀ q, lvF ft st tn q → 0 ≤ (rk q).toInt ∧ (rk q).toInt ≤ 9 := fun q hq => (hI.1.2.1 q (Nat.lt_of_lt_of_le hq.1 (by rw [hd9.2.2.2.1]; exact hpo.2.1 dn T hd9.1 hd9.2.1 (Nat.le_refl _)))).1
  have hwdA : ∀ q, q < ft → 0 ≤ (wd q).toInt ∧ (wd q).toInt ≤ 100 := fun q hq => (hI.1.2.1 q (Nat.lt_of_lt_of_le hq (by rw [hd9.2.2.2.1]; exact hpo.2.1 dn T hd9.1 hd9.2.1 (Nat.le_refl _)))).2
  have hcp5 := INV_cp hI (Nat.le_of_succ_le hK512)
  have hcp1 := hI.2.2.1.2.1
  have hcnt := hI.2.2.2.1
  have hlst := hI.2.2.2.2
  have hlb := mul_514 (a := Sn) (b := C) (r9_s hcnt.2.1 hK512).2.1
  have hftA := bdC_F hbdC
  have hrm := room_c (Sn := Sn) (AD := AD) (C := C) (c := cp) (cl := cl) (U := U) (r9_s hcnt.2.1 hK512).1 hI.2.2.1.2.2.2.2.2 hlst.2.2.2.1 hU
  have hrc : 1000 + 1010 * k9 + cp + 4 * cl ≤ 600000 := (by omega)
  have hefA : ∀ q, lvF ft st tn q → 1 ≤ eO (kd q).toInt (nN (mn q)) := fun q hq => eO_1 (wfS_kn hwfS q hq)
  refine la_17_1 l C0 hk9 hL9 hS hl (rfl) (rfl) (hv1) ?_
  obtain ⟨hPc, hDc, hFc⟩ := zt_3 hP hD hS hA
  refine zcall (st1 := [.int (-1)]) (va_runV (As := [.int (xs (6 * k9 + 1)), .int (xs (6 * k9 + 2)), .int (nI f0)]) (rest := []) ⟨hx, hb, hml, hown, hts⟩ (k_inside_z l dC dI cI cZ cF H.size x sh lw ro bq bp dq dp lv sl (nI bs) ul su (nI dn) fa ft FA L f kd st tn mn cx cy rk wd tw pa pb gb it (nI f0) (xs (6 * k9 + 1)) (xs (6 * k9 + 2)) (h200f) (shB_va hB) (fun ⟨g, e, hg⟩ => hbad (by rw [nI_inj9 (a := f0) (b := g) (by first | with_reducible assumption | omega) (by have := hg.1; omega) e]; exact hg))) (csV_263 hts rfl rfl ⟨Nat.le_of_ble_eq_true rfl, Nat.le_of_ble_eq_true rfl⟩) (zPV2 (q0 := 0) (ci := 8) hPc hDc hK3 hXN rfl rfl) rfl rfl hl.1 rfl (lv_room (Nat.le_of_ble_eq_true rfl)) dL_law_691 ⟨hrc, hrm⟩) hS hFc hFc rfl (fun t H locs ht hB hk1 hS => ?_)
  obtain ⟨hP1, hD1⟩ := hB
  rw [ht] at hP1
  obtain ⟨hP, hD⟩ := zs_3  hP hD hk1 hFc hP1 hD1
  clear hk1 hPc hDc hFc hP1 hD1 ht
  refine lv_pop hx hb dL_law_694 rfl ?_
  refine la_17_2 l C0 hk9 hL9 hS hl (rfl) (rfl) (hv1) ?_
  obtain ⟨hPc, hDc, hFc⟩ := zt_5 hP hD hS hA
  refine zcall (st1 := [.int (-1)]) (va_runV (As := [.int (xs (6 * k9 + 1)), .int (xs (6 * k9 + 2)), .int (nI f0)]) (rest := []) ⟨hx, hb, hml, hown, hts⟩ (k_M_inside_r l dC dI cI cZ cF H.size k0 a (upd I0 26 (nI ln)) J0 f0 ft (xs (6 * k9 + 1)) (xs (6 * k9 + 2)) st tn kd (hm0) (h200f) (by first | with_reducible assumption | omega) (fun h => hbad h.1)) (csV_264 hts rfl rfl ⟨Nat.le_of_ble_eq_true rfl, Nat.le_of_ble_eq_true rfl⟩) (zPV2 (q0 := 0) (ci := 9) hPc hDc hK3 hXN rfl rfl) rfl rfl hl.1 rfl (lv_room (Nat.le_of_ble_eq_true rfl)) dL_law_711 ⟨hrc, hrm⟩) hS hFc hFc rfl (fun t H locs ht hB hk1 hS => ?_)
  obtain ⟨hP1, hD1⟩ := hB
  rw [ht] at hP1
  obtain ⟨hP, hD⟩ := zs_5  hP hD hk1 hFc hP1 hD1
  clear hk1 hPc hDc hFc hP1 hD1 ht
  refine lv_pop hx hb dL_law_714 rfl ?_
  refine lv_goto (tgt := 1081) hx hb dL_law_715 rfl ?_
  obtain ⟨hP9, hD9⟩ := And.intro hP hD
  refine W.widen (k := 1000 + 1010 * (k9 + 1) + cp + 4 * cl) (n := 45000 + 8192 * cp + 512 * cl + U) (by first | exact wdK | omega) (by first | exact Nat.le_refl _ | omega) ?_
  exact hnext cp cl U H locs ls (lawI_in L f FA ea nd nt nw ul su mc9 rd rt rw P Q TX TY WX WY AR b1 b2 b3 b4 b5 b6 b7 b8 c1 c2 c3 c4 a1 a2 a3 a4 nv RA WT EX EY GR LV y1 y2 y3 y4 a I0 J0 kd st gb it pa pb rk wd tw tn mn cx cy sa shs wh of9 we la lb lc ld P0 Q0 S0 ox oy mt wi ins T0 fl mk jx jy gr bs dn T ft Sn AD C ln FT cc W9 V VX VY hP9 hD9 (hB) (INV_K hI) ⟨hm0, hm19, hm20, hm21⟩ (by first | exact hU | omega)) hS (lv_sub hl [0, 1, 2, 3] rfl)
set_option maxHeartbeats 4000000 in
set_option maxRecDepth 100000 in
theorem lc_inside_r {p : Program} {e : Env} {s : State} {m : MethodId} {below : List Frame} {meth : Method} {c : Code} (l : Launch) {b L9 : Nat} {xs : Nat → Int32} (C0 : lw_At p s m meth c b L9 xs) (dC : Nat → ClassId) (dI : Nat → Nat → Nat) (cI cZ cF cO : ClassId) (e0 mi : Nat) (x sl sh fa lw dr dx dy tg tx ty wy wx wz br bo aa ro za zw zx zy zg bq bp dq dp lv k0 : Nat) (hK : va_K (dC, dI) classes (zTyO cI cZ cF cO) s) (hXL : zXL e0 mi (fun q : Nat => s.heap.size ≤ q) s) (L : List Nat) (f : Nat → va_E) (FA : Nat → Option Nat) (ea : Nat) (nd : Nat) (nt : Nat) (nw : Nat) (ul : Int32) (su : Int32) (mc9 : Int32) (rd : Int32) (rt : Int32) (rw : Int32) (P : Nat → Int32) (Q : Nat → Int32) (TX : Nat → Int32) (TY : Nat → Int32) (WX : Nat → Int32) (WY : Nat → Int32) (AR : Nat → Int32) (b1 : Int32) (b2 : Int32) (b3 : Int32) (b4 : Int32) (b5 : Int32) (b6 : Int32) (b7 : Int32) (b8 : Int32) (c1 : Int32) (c2 : Int32) (c3 : Int32) (c4 : Int32) (a1 : Int32) (a2 : Int32) (a3 : Int32) (a4 : Int32) (nv : Int32) (RA : Nat → Option Nat) (WT : Nat → Int32) (EX : Nat → Int32) (EY : Nat → Int32) (GR : Nat → Int32) (LV : Nat → Int32) (y1 : Int64) (y2 : Int64) (y3 : Int64) (y4 : Int64) (a : Nat → Nat) (I0 : Nat → Int32) (J0 : Nat → Int64) (kd : Nat → Int32) (st : Nat → Int32) (gb : Nat → Int32) (it : Nat → Int32) (pa : Nat → Int32) (pb : Nat → Int32) (rk : Nat → Int32) (wd : Nat → Int32) (tw : Nat → Int32) (tn : Nat → Int32) (mn : Nat → Int32) (cx : Nat → Int32) (cy : Nat → Int32) (sa : Nat → Int32) (shs : Nat → Int32) (wh : Nat → Int32) (of9 : Nat → Int32) (we : Nat → Int32) (la : Nat → Int32) (lb : Nat → Int32) (lc : Nat → Int32) (ld : Nat → Int32) (P0 : Nat → Int32) (Q0 : Nat → Int32) (S0 : Nat → Int32) (ox : Nat → Int32) (oy : Nat → Int32) (mt : Nat → Int32) (wi : Nat → Int32) (ins : Nat → Int32) (T0 : Nat → Int32) (fl : Nat → Int32) (mk : Nat → Int32) (jx : Nat → Int32) (jy : Nat → Int32) (gr : Nat → Int32) (bs : Nat) (dn : Nat) (T : Nat) (ft : Nat) (Sn : Nat) (AD : Nat) (C : Nat) (ln : Nat) (FT : Nat → Nat) (cc : Nat → Nat) (W9 : Nat → Nat) (V : Nat → Nat → Nat → Int32) (VX : Nat → Nat → Int32) (VY : Nat → Nat → Int32) (cp cl U k9 : Nat) (hk9 : 6 * k9 + 6 ≤ L9) (hL9 : L9 ≤ 3072) (f0 : Nat) {H : Heap} {locs : List Loc} {ls : Array Slot} (hPD : zPD (dC, dI) classes (fun q : Nat => s.heap.size ≤ q) (((oc8 x (.ref sh) (.ref lw) (.ref ro) (.ref bq) (.ref bp) (.ref dq) (.ref dp) (.ref lv) (.ref sl) (nI dn) (nI bs) ul su) :: (oc10 sl mc9 (.ref ea) (nI T)) :: (oc7 sh (.ref fa) (nI ft)) :: (oq fa cF 200 FA) :: (oc3 lw (.ref dr) (.ref tg) (.ref wy) (.ref br) (.ref bo) (.ref aa)) :: (oc6 dr (.ref dx) (.ref dy) (nI nd) rd) :: (oa dx cI 40 P) :: (oa dy cI 40 Q) :: (oc6 tg (.ref tx) (.ref ty) (nI nt) rt) :: (oa tx cI 3 TX) :: (oa ty cI 3 TY) :: (oc6 wy (.ref wx) (.ref wz) (nI nw) rw) :: (oa wx cI 2 WX) :: (oa wz cI 2 WY) :: (oc0 br b1 b2 b3 b4) :: (oc0 bo b5 b6 b7 b8) :: (oa aa cI 40 AR) :: (oc5 ro (.ref za) (.ref zw) (.ref zx) (.ref zy) (.ref zg) nv) :: (oq za cF 200 RA) :: (oa zw cI 200 WT) :: (oa zx cI 400 EX) :: (oa zy cI 400 EY) :: (oa zg cI 400 GR) :: (oc0 bq c1 c2 c3 c4) :: (oc0 bp a1 a2 a3 a4) :: (oc2 dq y1 y2) :: (oc2 dp y3 y4) :: (oa lv cZ 200 LV) :: (om k0 a (upd I0 26 (nI ln)) J0) :: (oa (a 1) cI 201 kd) :: (oa (a 5) cI 201 st) :: (oa (a 7) cI 201 gb) :: (oa (a 10) cI 201 it) :: (oa (a 8) cI 201 pa) :: (oa (a 9) cI 201 pb) :: (oa (a 2) cI 201 rk) :: (oa (a 3) cI 201 wd) :: (oa (a 4) cI 201 tw) :: (oa (a 6) cZ 201 tn) :: (oa (a 11) cI 201 mn) :: (oa (a 12) cI 8040 cx) :: (oa (a 13) cI 8040 cy) :: (oa (a 27) cI 516 sa) :: (oa (a 28) cI (4096 * cp) shs) :: (oa (a 16) cI 514 wh) :: (oa (a 17) cI 514 of9) :: (oa (a 18) cI 514 we) :: (oa (a 22) cI (64 * cl) la) :: (oa (a 23) cI (64 * cl) lb) :: (oa (a 24) cI (64 * cl) lc) :: (oa (a 25) cI (64 * cl) ld) :: (oa (a 29) cI 42 P0) :: (oa (a 30) cI 42 Q0) :: (oa (a 32) cI 8 S0) :: (oa (a 33) cI 42 ox) :: (oa (a 34) cI 42 oy) :: (oa (a 37) cZ 201 mt) :: (oa (a 38) cZ 201 wi) :: (oa (a 39) cZ 8040 ins) :: (oa (a 40) cI 6 T0) :: (oa (a 43) cZ 40 fl) :: (oa (a 50) cZ 201 mk) :: (oa (a 51) cI 402 jx) :: (oa (a 52) cI 402 jy) :: (oa (a 53) cI 402 gr) :: []) ++ va_pl L f) H) (hS : va_S (fun q : Nat => s.heap.size ≤ q) s.heap H locs) (hl : lv_has ls 4 [(3, .int (nI (6 * k9))), (2, .ref k0), (1, .ref x), (0, .ref b)]) (hB : shB cI cO L f e0 FA ea bs dn T ft FT V VX VY tn rk wd tw pa pb wh of9 we kd st gb it mn cx cy) (hI : INV k9 Sn AD C cc W9 bs T ft cp ln cl FT V VX VY tn rk wd tw pa pb kd st it mn cx cy sa shs lb lc) (hM : I0 0 = nI ft ∧ I0 19 = nI dn ∧ I0 20 = nI (T - dn) ∧ I0 21 = nI bs) (hU : U ≤ Sn * (28 * (AD + C) + 1000) + 200 * (AD + C)) (hf0 : f0 < ft) (hv1 : xs (6 * k9 + 3) = nI f0) (hlv : lvF ft st tn f0) (hbad : ¬ (lvF ft st tn f0 ∧ 5 ≤ (kd f0).toInt ∧ 0 ≤ (xs (6 * k9 + 1)).toInt ∧ (xs (6 * k9 + 1)).toInt ≤ 1000 ∧ 0 ≤ (xs (6 * k9 + 2)).toInt ∧ (xs (6 * k9 + 2)).toInt ≤ 1000)) (hnext : ∀ (cp1 cl1 U1 : Nat) (H : Heap) (locs : List Loc) (ls : Array Slot), lawI s dC dI cI cZ cF cO e0 mi x sl sh fa lw dr dx dy tg tx ty wy wx wz br bo aa ro za zw zx zy zg bq bp dq dp lv k0 (k9 + 1) cp1 cl1 U1 H → va_S (fun q : Nat => s.heap.size ≤ q) s.heap H locs → lv_has ls 4 [(3, .int (nI (6 * k9))), (2, .ref k0), (1, .ref x), (0, .ref b)] → W p l e room_1 s m #[Value.ref b] below meth c H locs (1000 + 1010 * (k9 + 1) + cp1 + 4 * cl1) (45000 + 8192 * cp1 + 512 * cl1 + U1) (lw_Z below #[Value.ref b] s) (F0 m 1081 ls [])) : W p l e room_1 s m #[Value.ref b] below meth c H locs (1000 + 1010 * k9 + cp + 4 * cl) (45000 + 8192 * cp + 512 * cl + U) (lw_Z below #[Value.ref b] s) (F0 m 675 ls []) := by
  obtain ⟨hP, hD⟩ := hPD
  obtain ⟨hx, hb, hr, hml, hown, hts1, hX, hbl, hlocks, hgv⟩ := id C0
  have hts : ∀ w9 ∈ ws0, w9.before #[Value.ref b] s = true := fun w9 h => hts1 w9 (List.mem_filter.mp h).1
  have hA : ∀ q : Nat, s.heap.size ≤ q → (fun q : Nat => s.heap.size ≤ q) q := fun _ h => h
  have hbA : ¬ (fun q : Nat => s.heap.size ≤ q) b := Nat.not_le.mpr hbl
  have hXN := hXL.1
  have hK3 := hK.sub [0, 1, 2] rfl
  obtain ⟨hm0, hm19, hm20, hm21⟩ := hM
  have hpo := shB_po hB
  have hK512 : k9 + 1 ≤ 512 := r9_k hk9 hL9
  have hwfS := hI.1.1
  have hbdC := hI.1.2.2.1
  have hT0 := hI.1.2.2.2
  have hd9 := hpo.1
  have h200t : ∀ t, bs ≤ t → t ≤ T → FT t ≤ 200 := fun t t1 t2 => Nat.le_trans (hpo.2.1 t T t1 t2 (Nat.le_refl _)) hd9.2.2.2.2
  have h200f : ft ≤ 200 := (by rw [hd9.2.2.2.1]; exact h200t dn hd9.1 hd9.2.1)
  have hrkA : ∀ q, lvF ft st tn q → 0 ≤ (rk q).toInt ∧ (rk q).toInt ≤ 9 := fun q hq => (hI.1.2.1 q (Nat.lt_of_lt_of_le hq.1 (by rw [hd9.2.2.2.1]; exact hpo.2.1 dn T hd9.1 hd9.2.1 (Nat.le_refl _)))).1
  have hwdA : ∀ q, q < ft → 0 ≤ (wd q).toInt ∧ (wd q).toInt ≤ 100 := fun q hq => (hI.1.2.1 q (Nat.lt_of_lt_of_le hq (by rw [hd9.2.2.2.1]; exact hpo.2.1 dn T hd9.1 hd9.2.1 (Nat.le_refl _)))).2
  have hcp5 := INV_cp hI (Nat.le_of_succ_le hK512)
  have hcp1 := hI.2.2.1.2.1
  have hcnt := hI.2.2.2.1
  have hlst := hI.2.2.2.2
  have hlb := mul_514 (a := Sn) (b := C) (r9_s hcnt.2.1 hK512).2.1
  have hftA := bdC_F hbdC
  have hrm := room_c (Sn := Sn) (AD := AD) (C := C) (c := cp) (cl := cl) (U := U) (r9_s hcnt.2.1 hK512).1 hI.2.2.1.2.2.2.2.2 hlst.2.2.2.1 hU
  have hrc : 1000 + 1010 * k9 + cp + 4 * cl ≤ 600000 := (by omega)
  have hefA : ∀ q, lvF ft st tn q → 1 ≤ eO (kd q).toInt (nN (mn q)) := fun q hq => eO_1 (wfS_kn hwfS q hq)
  refine la_17_1 l C0 hk9 hL9 hS hl (rfl) (rfl) (hv1) ?_
  obtain ⟨hPc, hDc, hFc⟩ := zt_3 hP hD hS hA
  refine zcalle (va_runV (As := [.int (xs (6 * k9 + 1)), .int (xs (6 * k9 + 2)), .int (nI f0)]) (rest := []) ⟨hx, hb, hml, hown, hts⟩ (k_inside_w l dC dI cI cZ cF H.size x sh lw ro bq bp dq dp lv sl (nI bs) ul su (nI dn) fa ft FA f0 L f kd st tn mn cx cy rk wd tw pa pb gb it (xs (6 * k9 + 1)) (xs (6 * k9 + 2)) (h200f) (hf0) (shB_va hB) (wfS_ok hwfS) (hlv)) (csV_263 hts rfl rfl ⟨Nat.le_of_ble_eq_true rfl, Nat.le_of_ble_eq_true rfl⟩) (zPV2 (q0 := 0) (ci := 8) hPc hDc hK3 hXN rfl rfl) rfl rfl hl.1 rfl (lv_room (Nat.le_of_ble_eq_true rfl)) dL_law_691 ⟨hrc, hrm⟩) hS hFc hFc (fun v9 t H locs ht hB hk1 hS => ?_)
  obtain ⟨q_1, rfl, hP1, hD1⟩ := hB
  refine W.eq (g2 := F0 m 694 ls [.int q_1]) rfl ?_
  rw [ht] at hP1
  obtain ⟨hP, hD⟩ := zs_3  hP hD hk1 hFc hP1 hD1
  clear hk1 hPc hDc hFc hP1 hD1 ht
  refine lv_pop hx hb dL_law_694 rfl ?_
  refine la_17_2 l C0 hk9 hL9 hS hl (rfl) (rfl) (hv1) ?_
  obtain ⟨hPc, hDc, hFc⟩ := zt_5 hP hD hS hA
  refine zcall (st1 := [.int (-1)]) (va_runV (As := [.int (xs (6 * k9 + 1)), .int (xs (6 * k9 + 2)), .int (nI f0)]) (rest := []) ⟨hx, hb, hml, hown, hts⟩ (k_M_inside_r l dC dI cI cZ cF H.size k0 a (upd I0 26 (nI ln)) J0 f0 ft (xs (6 * k9 + 1)) (xs (6 * k9 + 2)) st tn kd (hm0) (h200f) (by first | with_reducible assumption | omega) (hbad)) (csV_264 hts rfl rfl ⟨Nat.le_of_ble_eq_true rfl, Nat.le_of_ble_eq_true rfl⟩) (zPV2 (q0 := 0) (ci := 9) hPc hDc hK3 hXN rfl rfl) rfl rfl hl.1 rfl (lv_room (Nat.le_of_ble_eq_true rfl)) dL_law_711 ⟨hrc, hrm⟩) hS hFc hFc rfl (fun t H locs ht hB hk1 hS => ?_)
  obtain ⟨hP1, hD1⟩ := hB
  rw [ht] at hP1
  obtain ⟨hP, hD⟩ := zs_5  hP hD hk1 hFc hP1 hD1
  clear hk1 hPc hDc hFc hP1 hD1 ht
  refine lv_pop hx hb dL_law_714 rfl ?_
  refine lv_goto (tgt := 1081) hx hb dL_law_715 rfl ?_
  obtain ⟨hP9, hD9⟩ := And.intro hP hD
  refine W.widen (k := 1000 + 1010 * (k9 + 1) + cp + 4 * cl) (n := 45000 + 8192 * cp + 512 * cl + U) (by first | exact wdK | omega) (by first | exact Nat.le_refl _ | omega) ?_
  exact hnext cp cl U H locs ls (lawI_in L f FA ea nd nt nw ul su mc9 rd rt rw P Q TX TY WX WY AR b1 b2 b3 b4 b5 b6 b7 b8 c1 c2 c3 c4 a1 a2 a3 a4 nv RA WT EX EY GR LV y1 y2 y3 y4 a I0 J0 kd st gb it pa pb rk wd tw tn mn cx cy sa shs wh of9 we la lb lc ld P0 Q0 S0 ox oy mt wi ins T0 fl mk jx jy gr bs dn T ft Sn AD C ln FT cc W9 V VX VY hP9 hD9 (hB) (INV_K hI) ⟨hm0, hm19, hm20, hm21⟩ (by first | exact hU | omega)) hS (lv_sub hl [0, 1, 2, 3] rfl)
set_option maxHeartbeats 4000000 in
set_option maxRecDepth 100000 in
theorem lc_inside_y {p : Program} {e : Env} {s : State} {m : MethodId} {below : List Frame} {meth : Method} {c : Code} (l : Launch) {b L9 : Nat} {xs : Nat → Int32} (C0 : lw_At p s m meth c b L9 xs) (dC : Nat → ClassId) (dI : Nat → Nat → Nat) (cI cZ cF cO : ClassId) (e0 mi : Nat) (x sl sh fa lw dr dx dy tg tx ty wy wx wz br bo aa ro za zw zx zy zg bq bp dq dp lv k0 : Nat) (hK : va_K (dC, dI) classes (zTyO cI cZ cF cO) s) (hXL : zXL e0 mi (fun q : Nat => s.heap.size ≤ q) s) (L : List Nat) (f : Nat → va_E) (FA : Nat → Option Nat) (ea : Nat) (nd : Nat) (nt : Nat) (nw : Nat) (ul : Int32) (su : Int32) (mc9 : Int32) (rd : Int32) (rt : Int32) (rw : Int32) (P : Nat → Int32) (Q : Nat → Int32) (TX : Nat → Int32) (TY : Nat → Int32) (WX : Nat → Int32) (WY : Nat → Int32) (AR : Nat → Int32) (b1 : Int32) (b2 : Int32) (b3 : Int32) (b4 : Int32) (b5 : Int32) (b6 : Int32) (b7 : Int32) (b8 : Int32) (c1 : Int32) (c2 : Int32) (c3 : Int32) (c4 : Int32) (a1 : Int32) (a2 : Int32) (a3 : Int32) (a4 : Int32) (nv : Int32) (RA : Nat → Option Nat) (WT : Nat → Int32) (EX : Nat → Int32) (EY : Nat → Int32) (GR : Nat → Int32) (LV : Nat → Int32) (y1 : Int64) (y2 : Int64) (y3 : Int64) (y4 : Int64) (a : Nat → Nat) (I0 : Nat → Int32) (J0 : Nat → Int64) (kd : Nat → Int32) (st : Nat → Int32) (gb : Nat → Int32) (it : Nat → Int32) (pa : Nat → Int32) (pb : Nat → Int32) (rk : Nat → Int32) (wd : Nat → Int32) (tw : Nat → Int32) (tn : Nat → Int32) (mn : Nat → Int32) (cx : Nat → Int32) (cy : Nat → Int32) (sa : Nat → Int32) (shs : Nat → Int32) (wh : Nat → Int32) (of9 : Nat → Int32) (we : Nat → Int32) (la : Nat → Int32) (lb : Nat → Int32) (lc : Nat → Int32) (ld : Nat → Int32) (P0 : Nat → Int32) (Q0 : Nat → Int32) (S0 : Nat → Int32) (ox : Nat → Int32) (oy : Nat → Int32) (mt : Nat → Int32) (wi : Nat → Int32) (ins : Nat → Int32) (T0 : Nat → Int32) (fl : Nat → Int32) (mk : Nat → Int32) (jx : Nat → Int32) (jy : Nat → Int32) (gr : Nat → Int32) (bs : Nat) (dn : Nat) (T : Nat) (ft : Nat) (Sn : Nat) (AD : Nat) (C : Nat) (ln : Nat) (FT : Nat → Nat) (cc : Nat → Nat) (W9 : Nat → Nat) (V : Nat → Nat → Nat → Int32) (VX : Nat → Nat → Int32) (VY : Nat → Nat → Int32) (cp cl U k9 : Nat) (hk9 : 6 * k9 + 6 ≤ L9) (hL9 : L9 ≤ 3072) (f0 : Nat) {H : Heap} {locs : List Loc} {ls : Array Slot} (hPD : zPD (dC, dI) classes (fun q : Nat => s.heap.size ≤ q) (((oc8 x (.ref sh) (.ref lw) (.ref ro) (.ref bq) (.ref bp) (.ref dq) (.ref dp) (.ref lv) (.ref sl) (nI dn) (nI bs) ul su) :: (oc10 sl mc9 (.ref ea) (nI T)) :: (oc7 sh (.ref fa) (nI ft)) :: (oq fa cF 200 FA) :: (oc3 lw (.ref dr) (.ref tg) (.ref wy) (.ref br) (.ref bo) (.ref aa)) :: (oc6 dr (.ref dx) (.ref dy) (nI nd) rd) :: (oa dx cI 40 P) :: (oa dy cI 40 Q) :: (oc6 tg (.ref tx) (.ref ty) (nI nt) rt) :: (oa tx cI 3 TX) :: (oa ty cI 3 TY) :: (oc6 wy (.ref wx) (.ref wz) (nI nw) rw) :: (oa wx cI 2 WX) :: (oa wz cI 2 WY) :: (oc0 br b1 b2 b3 b4) :: (oc0 bo b5 b6 b7 b8) :: (oa aa cI 40 AR) :: (oc5 ro (.ref za) (.ref zw) (.ref zx) (.ref zy) (.ref zg) nv) :: (oq za cF 200 RA) :: (oa zw cI 200 WT) :: (oa zx cI 400 EX) :: (oa zy cI 400 EY) :: (oa zg cI 400 GR) :: (oc0 bq c1 c2 c3 c4) :: (oc0 bp a1 a2 a3 a4) :: (oc2 dq y1 y2) :: (oc2 dp y3 y4) :: (oa lv cZ 200 LV) :: (om k0 a (upd I0 26 (nI ln)) J0) :: (oa (a 1) cI 201 kd) :: (oa (a 5) cI 201 st) :: (oa (a 7) cI 201 gb) :: (oa (a 10) cI 201 it) :: (oa (a 8) cI 201 pa) :: (oa (a 9) cI 201 pb) :: (oa (a 2) cI 201 rk) :: (oa (a 3) cI 201 wd) :: (oa (a 4) cI 201 tw) :: (oa (a 6) cZ 201 tn) :: (oa (a 11) cI 201 mn) :: (oa (a 12) cI 8040 cx) :: (oa (a 13) cI 8040 cy) :: (oa (a 27) cI 516 sa) :: (oa (a 28) cI (4096 * cp) shs) :: (oa (a 16) cI 514 wh) :: (oa (a 17) cI 514 of9) :: (oa (a 18) cI 514 we) :: (oa (a 22) cI (64 * cl) la) :: (oa (a 23) cI (64 * cl) lb) :: (oa (a 24) cI (64 * cl) lc) :: (oa (a 25) cI (64 * cl) ld) :: (oa (a 29) cI 42 P0) :: (oa (a 30) cI 42 Q0) :: (oa (a 32) cI 8 S0) :: (oa (a 33) cI 42 ox) :: (oa (a 34) cI 42 oy) :: (oa (a 37) cZ 201 mt) :: (oa (a 38) cZ 201 wi) :: (oa (a 39) cZ 8040 ins) :: (oa (a 40) cI 6 T0) :: (oa (a 43) cZ 40 fl) :: (oa (a 50) cZ 201 mk) :: (oa (a 51) cI 402 jx) :: (oa (a 52) cI 402 jy) :: (oa (a 53) cI 402 gr) :: []) ++ va_pl L f) H) (hS : va_S (fun q : Nat => s.heap.size ≤ q) s.heap H locs) (hl : lv_has ls 4 [(3, .int (nI (6 * k9))), (2, .ref k0), (1, .ref x), (0, .ref b)]) (hB : shB cI cO L f e0 FA ea bs dn T ft FT V VX VY tn rk wd tw pa pb wh of9 we kd st gb it mn cx cy) (hI : INV k9 Sn AD C cc W9 bs T ft cp ln cl FT V VX VY tn rk wd tw pa pb kd st it mn cx cy sa shs lb lc) (hM : I0 0 = nI ft ∧ I0 19 = nI dn ∧ I0 20 = nI (T - dn) ∧ I0 21 = nI bs) (hU : U ≤ Sn * (28 * (AD + C) + 1000) + 200 * (AD + C)) (hf0 : f0 < ft) (hv1 : xs (6 * k9 + 3) = nI f0) (hgd : lvF ft st tn f0 ∧ 5 ≤ (kd f0).toInt ∧ 0 ≤ (xs (6 * k9 + 1)).toInt ∧ (xs (6 * k9 + 1)).toInt ≤ 1000 ∧ 0 ≤ (xs (6 * k9 + 2)).toInt ∧ (xs (6 * k9 + 2)).toInt ≤ 1000) (hnext : ∀ (cp1 cl1 U1 : Nat) (H : Heap) (locs : List Loc) (ls : Array Slot), lawI s dC dI cI cZ cF cO e0 mi x sl sh fa lw dr dx dy tg tx ty wy wx wz br bo aa ro za zw zx zy zg bq bp dq dp lv k0 (k9 + 1) cp1 cl1 U1 H → va_S (fun q : Nat => s.heap.size ≤ q) s.heap H locs → lv_has ls 4 [(3, .int (nI (6 * k9))), (2, .ref k0), (1, .ref x), (0, .ref b)] → W p l e room_1 s m #[Value.ref b] below meth c H locs (1000 + 1010 * (k9 + 1) + cp1 + 4 * cl1) (45000 + 8192 * cp1 + 512 * cl1 + U1) (lw_Z below #[Value.ref b] s) (F0 m 1081 ls [])) : W p l e room_1 s m #[Value.ref b] below meth c H locs (1000 + 1010 * k9 + cp + 4 * cl) (45000 + 8192 * cp + 512 * cl + U) (lw_Z below #[Value.ref b] s) (F0 m 675 ls []) := by
  obtain ⟨hP, hD⟩ := hPD
  obtain ⟨hx, hb, hr, hml, hown, hts1, hX, hbl, hlocks, hgv⟩ := id C0
  have hts : ∀ w9 ∈ ws0, w9.before #[Value.ref b] s = true := fun w9 h => hts1 w9 (List.mem_filter.mp h).1
  have hA : ∀ q : Nat, s.heap.size ≤ q → (fun q : Nat => s.heap.size ≤ q) q := fun _ h => h
  have hbA : ¬ (fun q : Nat => s.heap.size ≤ q) b := Nat.not_le.mpr hbl
  have hXN := hXL.1
  have hK3 := hK.sub [0, 1, 2] rfl
  obtain ⟨hm0, hm19, hm20, hm21⟩ := hM
  have hpo := shB_po hB
  have hK512 : k9 + 1 ≤ 512 := r9_k hk9 hL9
  have hwfS := hI.1.1
  have hbdC := hI.1.2.2.1
  have hT0 := hI.1.2.2.2
  have hd9 := hpo.1
  have h200t : ∀ t, bs ≤ t → t ≤ T → FT t ≤ 200 := fun t t1 t2 => Nat.le_trans (hpo.2.1 t T t1 t2 (Nat.le_refl _)) hd9.2.2.2.2
  have h200f : ft ≤ 200 := (by rw [hd9.2.2.2.1]; exact h200t dn hd9.1 hd9.2.1)
  have hrkA : ∀ q, lvF ft st tn q → 0 ≤ (rk q).toInt ∧ (rk q).toInt ≤ 9 := fun q hq => (hI.1.2.1 q (Nat.lt_of_lt_of_le hq.1 (by rw [hd9.2.2.2.1]; exact hpo.2.1 dn T hd9.1 hd9.2.1 (Nat.le_refl _)))).1
  have hwdA : ∀ q, q < ft → 0 ≤ (wd q).toInt ∧ (wd q).toInt ≤ 100 := fun q hq => (hI.1.2.1 q (Nat.lt_of_lt_of_le hq (by rw [hd9.2.2.2.1]; exact hpo.2.1 dn T hd9.1 hd9.2.1 (Nat.le_refl _)))).2
  have hcp5 := INV_cp hI (Nat.le_of_succ_le hK512)
  have hcp1 := hI.2.2.1.2.1
  have hcnt := hI.2.2.2.1
  have hlst := hI.2.2.2.2
  have hlb := mul_514 (a := Sn) (b := C) (r9_s hcnt.2.1 hK512).2.1
  have hftA := bdC_F hbdC
  have hrm := room_c (Sn := Sn) (AD := AD) (C := C) (c := cp) (cl := cl) (U := U) (r9_s hcnt.2.1 hK512).1 hI.2.2.1.2.2.2.2.2 hlst.2.2.2.1 hU
  have hrc : 1000 + 1010 * k9 + cp + 4 * cl ≤ 600000 := (by omega)
  have hefA : ∀ q, lvF ft st tn q → 1 ≤ eO (kd q).toInt (nN (mn q)) := fun q hq => eO_1 (wfS_kn hwfS q hq)
  refine la_17_1 l C0 hk9 hL9 hS hl (rfl) (rfl) (hv1) ?_
  obtain ⟨hPc, hDc, hFc⟩ := zt_3 hP hD hS hA
  refine zcalle (va_runV (As := [.int (xs (6 * k9 + 1)), .int (xs (6 * k9 + 2)), .int (nI f0)]) (rest := []) ⟨hx, hb, hml, hown, hts⟩ (k_inside_w l dC dI cI cZ cF H.size x sh lw ro bq bp dq dp lv sl (nI bs) ul su (nI dn) fa ft FA f0 L f kd st tn mn cx cy rk wd tw pa pb gb it (xs (6 * k9 + 1)) (xs (6 * k9 + 2)) (h200f) (hf0) (shB_va hB) (wfS_ok hwfS) (hgd.1)) (csV_263 hts rfl rfl ⟨Nat.le_of_ble_eq_true rfl, Nat.le_of_ble_eq_true rfl⟩) (zPV2 (q0 := 0) (ci := 8) hPc hDc hK3 hXN rfl rfl) rfl rfl hl.1 rfl (lv_room (Nat.le_of_ble_eq_true rfl)) dL_law_691 ⟨hrc, hrm⟩) hS hFc hFc (fun v9 t H locs ht hB hk1 hS => ?_)
  obtain ⟨q_1, rfl, hP1, hD1⟩ := hB
  refine W.eq (g2 := F0 m 694 ls [.int q_1]) rfl ?_
  rw [ht] at hP1
  obtain ⟨hP, hD⟩ := zs_3  hP hD hk1 hFc hP1 hD1
  clear hk1 hPc hDc hFc hP1 hD1 ht
  refine lv_pop hx hb dL_law_694 rfl ?_
  refine la_17_2 l C0 hk9 hL9 hS hl (rfl) (rfl) (hv1) ?_
  obtain ⟨hPc, hDc, hFc⟩ := zt_7 hP hD hS hA
  refine zcall (st1 := [.int (inV (∃ i, i < eO (kd f0).toInt (nN (mn f0)) ∧ eOn (nN (mn f0)) (cF40 cx f0) (cF40 cy f0) i (xs (6 * k9 + 1)).toInt (xs (6 * k9 + 2)).toInt) (inF (kd f0).toInt (nN (mn f0)) (cF40 cx f0) (cF40 cy f0) (xs (6 * k9 + 1)).toInt (xs (6 * k9 + 2)).toInt))]) (va_runV (As := [.int (xs (6 * k9 + 1)), .int (xs (6 * k9 + 2)), .int (nI f0)]) (rest := []) ⟨hx, hb, hml, hown, hts⟩ (k_M_inside_y l dC dI cI cZ cF H.size k0 a (upd I0 26 (nI ln)) J0 f0 ft (xs (6 * k9 + 1)) (xs (6 * k9 + 2)) st tn kd mn cx cy S0 (hm0) (h200f) (wfS_wf hwfS) (by first | with_reducible assumption | omega) (hgd.1) (hgd.2.1) (hgd.2.2)) (csV_264 hts rfl rfl ⟨Nat.le_of_ble_eq_true rfl, Nat.le_of_ble_eq_true rfl⟩) (zPV2 (q0 := 0) (ci := 9) hPc hDc hK3 hXN rfl rfl) rfl rfl hl.1 rfl (lv_room (Nat.le_of_ble_eq_true rfl)) dL_law_711 ⟨hrc, hrm⟩) hS hFc hFc rfl (fun t H locs ht hB hk1 hS => ?_)
  obtain ⟨q_2, hP1, hD1⟩ := hB
  rw [ht] at hP1
  obtain ⟨hP, hD⟩ := zs_7 (u53 := (oa (a 32) cI 8 q_2)) hP hD hk1 hFc hP1 hD1
  clear hk1 hPc hDc hFc hP1 hD1 ht
  refine lv_pop hx hb dL_law_714 rfl ?_
  refine lv_goto (tgt := 1081) hx hb dL_law_715 rfl ?_
  obtain ⟨hP9, hD9⟩ := And.intro hP hD
  refine W.widen (k := 1000 + 1010 * (k9 + 1) + cp + 4 * cl) (n := 45000 + 8192 * cp + 512 * cl + U) (by first | exact wdK | omega) (by first | exact Nat.le_refl _ | omega) ?_
  exact hnext cp cl U H locs ls (lawI_in L f FA ea nd nt nw ul su mc9 rd rt rw P Q TX TY WX WY AR b1 b2 b3 b4 b5 b6 b7 b8 c1 c2 c3 c4 a1 a2 a3 a4 nv RA WT EX EY GR LV y1 y2 y3 y4 a I0 J0 kd st gb it pa pb rk wd tw tn mn cx cy sa shs wh of9 we la lb lc ld P0 Q0 q_2 ox oy mt wi ins T0 fl mk jx jy gr bs dn T ft Sn AD C ln FT cc W9 V VX VY hP9 hD9 (hB) (INV_K hI) ⟨hm0, hm19, hm20, hm21⟩ (by first | exact hU | omega)) hS (lv_sub hl [0, 1, 2, 3] rfl)
set_option maxHeartbeats 4000000 in
set_option maxRecDepth 100000 in
theorem lc_side_x {p : Program} {e : Env} {s : State} {m : MethodId} {below : List Frame} {meth : Method} {c : Code} (l : Launch) {b L9 : Nat} {xs : Nat → Int32} (C0 : lw_At p s m meth c b L9 xs) (dC : Nat → ClassId) (dI : Nat → Nat → Nat) (cI cZ cF cO : ClassId) (e0 mi : Nat) (x sl sh fa lw dr dx dy tg tx ty wy wx wz br bo aa ro za zw zx zy zg bq bp dq dp lv k0 : Nat) (hK : va_K (dC, dI) classes (zTyO cI cZ cF cO) s) (hXL : zXL e0 mi (fun q : Nat => s.heap.size ≤ q) s) (L : List Nat) (f : Nat → va_E) (FA : Nat → Option Nat) (ea : Nat) (nd : Nat) (nt : Nat) (nw : Nat) (ul : Int32) (su : Int32) (mc9 : Int32) (rd : Int32) (rt : Int32) (rw : Int32) (P : Nat → Int32) (Q : Nat → Int32) (TX : Nat → Int32) (TY : Nat → Int32) (WX : Nat → Int32) (WY : Nat → Int32) (AR : Nat → Int32) (b1 : Int32) (b2 : Int32) (b3 : Int32) (b4 : Int32) (b5 : Int32) (b6 : Int32) (b7 : Int32) (b8 : Int32) (c1 : Int32) (c2 : Int32) (c3 : Int32) (c4 : Int32) (a1 : Int32) (a2 : Int32) (a3 : Int32) (a4 : Int32) (nv : Int32) (RA : Nat → Option Nat) (WT : Nat → Int32) (EX : Nat → Int32) (EY : Nat → Int32) (GR : Nat → Int32) (LV : Nat → Int32) (y1 : Int64) (y2 : Int64) (y3 : Int64) (y4 : Int64) (a : Nat → Nat) (I0 : Nat → Int32) (J0 : Nat → Int64) (kd : Nat → Int32) (st : Nat → Int32) (gb : Nat → Int32) (it : Nat → Int32) (pa : Nat → Int32) (pb : Nat → Int32) (rk : Nat → Int32) (wd : Nat → Int32) (tw : Nat → Int32) (tn : Nat → Int32) (mn : Nat → Int32) (cx : Nat → Int32) (cy : Nat → Int32) (sa : Nat → Int32) (shs : Nat → Int32) (wh : Nat → Int32) (of9 : Nat → Int32) (we : Nat → Int32) (la : Nat → Int32) (lb : Nat → Int32) (lc : Nat → Int32) (ld : Nat → Int32) (P0 : Nat → Int32) (Q0 : Nat → Int32) (S0 : Nat → Int32) (ox : Nat → Int32) (oy : Nat → Int32) (mt : Nat → Int32) (wi : Nat → Int32) (ins : Nat → Int32) (T0 : Nat → Int32) (fl : Nat → Int32) (mk : Nat → Int32) (jx : Nat → Int32) (jy : Nat → Int32) (gr : Nat → Int32) (bs : Nat) (dn : Nat) (T : Nat) (ft : Nat) (Sn : Nat) (AD : Nat) (C : Nat) (ln : Nat) (FT : Nat → Nat) (cc : Nat → Nat) (W9 : Nat → Nat) (V : Nat → Nat → Nat → Int32) (VX : Nat → Nat → Int32) (VY : Nat → Nat → Int32) (cp cl U k9 : Nat) (hk9 : 6 * k9 + 6 ≤ L9) (hL9 : L9 ≤ 3072) {H : Heap} {locs : List Loc} {ls : Array Slot} (hPD : zPD (dC, dI) classes (fun q : Nat => s.heap.size ≤ q) (((oc8 x (.ref sh) (.ref lw) (.ref ro) (.ref bq) (.ref bp) (.ref dq) (.ref dp) (.ref lv) (.ref sl) (nI dn) (nI bs) ul su) :: (oc10 sl mc9 (.ref ea) (nI T)) :: (oc7 sh (.ref fa) (nI ft)) :: (oq fa cF 200 FA) :: (oc3 lw (.ref dr) (.ref tg) (.ref wy) (.ref br) (.ref bo) (.ref aa)) :: (oc6 dr (.ref dx) (.ref dy) (nI nd) rd) :: (oa dx cI 40 P) :: (oa dy cI 40 Q) :: (oc6 tg (.ref tx) (.ref ty) (nI nt) rt) :: (oa tx cI 3 TX) :: (oa ty cI 3 TY) :: (oc6 wy (.ref wx) (.ref wz) (nI nw) rw) :: (oa wx cI 2 WX) :: (oa wz cI 2 WY) :: (oc0 br b1 b2 b3 b4) :: (oc0 bo b5 b6 b7 b8) :: (oa aa cI 40 AR) :: (oc5 ro (.ref za) (.ref zw) (.ref zx) (.ref zy) (.ref zg) nv) :: (oq za cF 200 RA) :: (oa zw cI 200 WT) :: (oa zx cI 400 EX) :: (oa zy cI 400 EY) :: (oa zg cI 400 GR) :: (oc0 bq c1 c2 c3 c4) :: (oc0 bp a1 a2 a3 a4) :: (oc2 dq y1 y2) :: (oc2 dp y3 y4) :: (oa lv cZ 200 LV) :: (om k0 a (upd I0 26 (nI ln)) J0) :: (oa (a 1) cI 201 kd) :: (oa (a 5) cI 201 st) :: (oa (a 7) cI 201 gb) :: (oa (a 10) cI 201 it) :: (oa (a 8) cI 201 pa) :: (oa (a 9) cI 201 pb) :: (oa (a 2) cI 201 rk) :: (oa (a 3) cI 201 wd) :: (oa (a 4) cI 201 tw) :: (oa (a 6) cZ 201 tn) :: (oa (a 11) cI 201 mn) :: (oa (a 12) cI 8040 cx) :: (oa (a 13) cI 8040 cy) :: (oa (a 27) cI 516 sa) :: (oa (a 28) cI (4096 * cp) shs) :: (oa (a 16) cI 514 wh) :: (oa (a 17) cI 514 of9) :: (oa (a 18) cI 514 we) :: (oa (a 22) cI (64 * cl) la) :: (oa (a 23) cI (64 * cl) lb) :: (oa (a 24) cI (64 * cl) lc) :: (oa (a 25) cI (64 * cl) ld) :: (oa (a 29) cI 42 P0) :: (oa (a 30) cI 42 Q0) :: (oa (a 32) cI 8 S0) :: (oa (a 33) cI 42 ox) :: (oa (a 34) cI 42 oy) :: (oa (a 37) cZ 201 mt) :: (oa (a 38) cZ 201 wi) :: (oa (a 39) cZ 8040 ins) :: (oa (a 40) cI 6 T0) :: (oa (a 43) cZ 40 fl) :: (oa (a 50) cZ 201 mk) :: (oa (a 51) cI 402 jx) :: (oa (a 52) cI 402 jy) :: (oa (a 53) cI 402 gr) :: []) ++ va_pl L f) H) (hS : va_S (fun q : Nat => s.heap.size ≤ q) s.heap H locs) (hl : lv_has ls 4 [(3, .int (nI (6 * k9))), (2, .ref k0), (1, .ref x), (0, .ref b)]) (hB : shB cI cO L f e0 FA ea bs dn T ft FT V VX VY tn rk wd tw pa pb wh of9 we kd st gb it mn cx cy) (hI : INV k9 Sn AD C cc W9 bs T ft cp ln cl FT V VX VY tn rk wd tw pa pb kd st it mn cx cy sa shs lb lc) (hM : I0 0 = nI ft ∧ I0 19 = nI dn ∧ I0 20 = nI (T - dn) ∧ I0 21 = nI bs) (hU : U ≤ Sn * (28 * (AD + C) + 1000) + 200 * (AD + C)) (hbad : ¬ (0 ≤ (xs (6 * k9 + 3)).toInt ∧ (xs (6 * k9 + 3)).toInt < ((ft : Nat) : Int))) (hnext : ∀ (cp1 cl1 U1 : Nat) (H : Heap) (locs : List Loc) (ls : Array Slot), lawI s dC dI cI cZ cF cO e0 mi x sl sh fa lw dr dx dy tg tx ty wy wx wz br bo aa ro za zw zx zy zg bq bp dq dp lv k0 (k9 + 1) cp1 cl1 U1 H → va_S (fun q : Nat => s.heap.size ≤ q) s.heap H locs → lv_has ls 4 [(3, .int (nI (6 * k9))), (2, .ref k0), (1, .ref x), (0, .ref b)] → W p l e room_1 s m #[Value.ref b] below meth c H locs (1000 + 1010 * (k9 + 1) + cp1 + 4 * cl1) (45000 + 8192 * cp1 + 512 * cl1 + U1) (lw_Z below #[Value.ref b] s) (F0 m 1081 ls [])) : W p l e room_1 s m #[Value.ref b] below meth c H locs (1000 + 1010 * k9 + cp + 4 * cl) (45000 + 8192 * cp + 512 * cl + U) (lw_Z below #[Value.ref b] s) (F0 m 718 ls []) := by
  obtain ⟨hP, hD⟩ := hPD
  obtain ⟨hx, hb, hr, hml, hown, hts1, hX, hbl, hlocks, hgv⟩ := id C0
  have hts : ∀ w9 ∈ ws0, w9.before #[Value.ref b] s = true := fun w9 h => hts1 w9 (List.mem_filter.mp h).1
  have hA : ∀ q : Nat, s.heap.size ≤ q → (fun q : Nat => s.heap.size ≤ q) q := fun _ h => h
  have hbA : ¬ (fun q : Nat => s.heap.size ≤ q) b := Nat.not_le.mpr hbl
  have hXN := hXL.1
  have hK3 := hK.sub [0, 1, 2] rfl
  obtain ⟨hm0, hm19, hm20, hm21⟩ := hM
  have hpo := shB_po hB
  have hK512 : k9 + 1 ≤ 512 := r9_k hk9 hL9
  have hwfS := hI.1.1
  have hbdC := hI.1.2.2.1
  have hT0 := hI.1.2.2.2
  have hd9 := hpo.1
  have h200t : ∀ t, bs ≤ t → t ≤ T → FT t ≤ 200 := fun t t1 t2 => Nat.le_trans (hpo.2.1 t T t1 t2 (Nat.le_refl _)) hd9.2.2.2.2
  have h200f : ft ≤ 200 := (by rw [hd9.2.2.2.1]; exact h200t dn hd9.1 hd9.2.1)
  have hrkA : ∀ q, lvF ft st tn q → 0 ≤ (rk q).toInt ∧ (rk q).toInt ≤ 9 := fun q hq => (hI.1.2.1 q (Nat.lt_of_lt_of_le hq.1 (by rw [hd9.2.2.2.1]; exact hpo.2.1 dn T hd9.1 hd9.2.1 (Nat.le_refl _)))).1
  have hwdA : ∀ q, q < ft → 0 ≤ (wd q).toInt ∧ (wd q).toInt ≤ 100 := fun q hq => (hI.1.2.1 q (Nat.lt_of_lt_of_le hq (by rw [hd9.2.2.2.1]; exact hpo.2.1 dn T hd9.1 hd9.2.1 (Nat.le_refl _)))).2
  have hcp5 := INV_cp hI (Nat.le_of_succ_le hK512)
  have hcp1 := hI.2.2.1.2.1
  have hcnt := hI.2.2.2.1
  have hlst := hI.2.2.2.2
  have hlb := mul_514 (a := Sn) (b := C) (r9_s hcnt.2.1 hK512).2.1
  have hftA := bdC_F hbdC
  have hrm := room_c (Sn := Sn) (AD := AD) (C := C) (c := cp) (cl := cl) (U := U) (r9_s hcnt.2.1 hK512).1 hI.2.2.1.2.2.2.2.2 hlst.2.2.2.1 hU
  have hrc : 1000 + 1010 * k9 + cp + 4 * cl ≤ 600000 := (by omega)
  have hefA : ∀ q, lvF ft st tn q → 1 ≤ eO (kd q).toInt (nN (mn q)) := fun q hq => eO_1 (wfS_kn hwfS q hq)
  refine la_18_1 l C0 hk9 hL9 hS hl (rfl) (rfl) (rfl) (rfl) ?_
  obtain ⟨hPc, hDc, hFc⟩ := zt_1 hP hD hS hA
  refine zcall (st1 := [.int 0]) (va_runV (As := [.int (xs (6 * k9 + 1)), .int (xs (6 * k9 + 2)), .int (xs (6 * k9 + 3)), .int (xs (6 * k9 + 4))]) (rest := []) ⟨hx, hb, hml, hown, hts⟩ (k_side_x l dC dI cI cZ cF H.size x sh lw ro bq bp dq dp lv sl (nI bs) ul su (nI dn) fa ft FA (xs (6 * k9 + 3)) (xs (6 * k9 + 1)) (xs (6 * k9 + 2)) (xs (6 * k9 + 4)) (h200f) (hbad)) (csV_265 hts rfl rfl ⟨Nat.le_of_ble_eq_true rfl, Nat.le_of_ble_eq_true rfl⟩) (zPV2 (q0 := 0) (ci := 8) hPc hDc hK3 hXN rfl rfl) rfl rfl hl.1 rfl (lv_room (Nat.le_of_ble_eq_true rfl)) dL_law_739 ⟨hrc, hrm⟩) hS hFc hFc rfl (fun t H locs ht hB hk1 hS => ?_)
  obtain ⟨hP1, hD1⟩ := hB
  rw [ht] at hP1
  obtain ⟨hP, hD⟩ := zs_1  hP hD hk1 hFc hP1 hD1
  clear hk1 hPc hDc hFc hP1 hD1 ht
  refine lv_pop hx hb dL_law_742 rfl ?_
  refine la_18_2 l C0 hk9 hL9 hS hl (rfl) (rfl) (rfl) (rfl) ?_
  obtain ⟨hPc, hDc, hFc⟩ := zt_2 hP hD hS hA
  refine zcall (st1 := [.int 0]) (va_runV (As := [.int (xs (6 * k9 + 1)), .int (xs (6 * k9 + 2)), .int (xs (6 * k9 + 3)), .int (xs (6 * k9 + 4))]) (rest := []) ⟨hx, hb, hml, hown, hts⟩ (k_M_side_x l dC dI cI cZ cF H.size k0 a (upd I0 26 (nI ln)) J0 ft (xs (6 * k9 + 1)) (xs (6 * k9 + 2)) (xs (6 * k9 + 3)) (xs (6 * k9 + 4)) (hm0) (h200f) (hbad)) (csV_266 hts rfl rfl ⟨Nat.le_of_ble_eq_true rfl, Nat.le_of_ble_eq_true rfl⟩) (zPV2 (q0 := 0) (ci := 9) hPc hDc hK3 hXN rfl rfl) rfl rfl hl.1 rfl (lv_room (Nat.le_of_ble_eq_true rfl)) dL_law_764 ⟨hrc, hrm⟩) hS hFc hFc rfl (fun t H locs ht hB hk1 hS => ?_)
  obtain ⟨hP1, hD1⟩ := hB
  rw [ht] at hP1
  obtain ⟨hP, hD⟩ := zs_2  hP hD hk1 hFc hP1 hD1
  clear hk1 hPc hDc hFc hP1 hD1 ht
  refine lv_pop hx hb dL_law_767 rfl ?_
  refine lv_goto (tgt := 1081) hx hb dL_law_768 rfl ?_
  obtain ⟨hP9, hD9⟩ := And.intro hP hD
  refine W.widen (k := 1000 + 1010 * (k9 + 1) + cp + 4 * cl) (n := 45000 + 8192 * cp + 512 * cl + U) (by first | exact wdK | omega) (by first | exact Nat.le_refl _ | omega) ?_
  exact hnext cp cl U H locs ls (lawI_in L f FA ea nd nt nw ul su mc9 rd rt rw P Q TX TY WX WY AR b1 b2 b3 b4 b5 b6 b7 b8 c1 c2 c3 c4 a1 a2 a3 a4 nv RA WT EX EY GR LV y1 y2 y3 y4 a I0 J0 kd st gb it pa pb rk wd tw tn mn cx cy sa shs wh of9 we la lb lc ld P0 Q0 S0 ox oy mt wi ins T0 fl mk jx jy gr bs dn T ft Sn AD C ln FT cc W9 V VX VY hP9 hD9 (hB) (INV_K hI) ⟨hm0, hm19, hm20, hm21⟩ (by first | exact hU | omega)) hS (lv_sub hl [0, 1, 2, 3] rfl)
set_option maxHeartbeats 4000000 in
set_option maxRecDepth 100000 in
theorem lc_side_r {p : Program} {e : Env} {s : State} {m : MethodId} {below : List Frame} {meth : Method} {c : Code} (l : Launch) {b L9 : Nat} {xs : Nat → Int32} (C0 : lw_At p s m meth c b L9 xs) (dC : Nat → ClassId) (dI : Nat → Nat → Nat) (cI cZ cF cO : ClassId) (e0 mi : Nat) (x sl sh fa lw dr dx dy tg tx ty wy wx wz br bo aa ro za zw zx zy zg bq bp dq dp lv k0 : Nat) (hK : va_K (dC, dI) classes (zTyO cI cZ cF cO) s) (hXL : zXL e0 mi (fun q : Nat => s.heap.size ≤ q) s) (L : List Nat) (f : Nat → va_E) (FA : Nat → Option Nat) (ea : Nat) (nd : Nat) (nt : Nat) (nw : Nat) (ul : Int32) (su : Int32) (mc9 : Int32) (rd : Int32) (rt : Int32) (rw : Int32) (P : Nat → Int32) (Q : Nat → Int32) (TX : Nat → Int32) (TY : Nat → Int32) (WX : Nat → Int32) (WY : Nat → Int32) (AR : Nat → Int32) (b1 : Int32) (b2 : Int32) (b3 : Int32) (b4 : Int32) (b5 : Int32) (b6 : Int32) (b7 : Int32) (b8 : Int32) (c1 : Int32) (c2 : Int32) (c3 : Int32) (c4 : Int32) (a1 : Int32) (a2 : Int32) (a3 : Int32) (a4 : Int32) (nv : Int32) (RA : Nat → Option Nat) (WT : Nat → Int32) (EX : Nat → Int32) (EY : Nat → Int32) (GR : Nat → Int32) (LV : Nat → Int32) (y1 : Int64) (y2 : Int64) (y3 : Int64) (y4 : Int64) (a : Nat → Nat) (I0 : Nat → Int32) (J0 : Nat → Int64) (kd : Nat → Int32) (st : Nat → Int32) (gb : Nat → Int32) (it : Nat → Int32) (pa : Nat → Int32) (pb : Nat → Int32) (rk : Nat → Int32) (wd : Nat → Int32) (tw : Nat → Int32) (tn : Nat → Int32) (mn : Nat → Int32) (cx : Nat → Int32) (cy : Nat → Int32) (sa : Nat → Int32) (shs : Nat → Int32) (wh : Nat → Int32) (of9 : Nat → Int32) (we : Nat → Int32) (la : Nat → Int32) (lb : Nat → Int32) (lc : Nat → Int32) (ld : Nat → Int32) (P0 : Nat → Int32) (Q0 : Nat → Int32) (S0 : Nat → Int32) (ox : Nat → Int32) (oy : Nat → Int32) (mt : Nat → Int32) (wi : Nat → Int32) (ins : Nat → Int32) (T0 : Nat → Int32) (fl : Nat → Int32) (mk : Nat → Int32) (jx : Nat → Int32) (jy : Nat → Int32) (gr : Nat → Int32) (bs : Nat) (dn : Nat) (T : Nat) (ft : Nat) (Sn : Nat) (AD : Nat) (C : Nat) (ln : Nat) (FT : Nat → Nat) (cc : Nat → Nat) (W9 : Nat → Nat) (V : Nat → Nat → Nat → Int32) (VX : Nat → Nat → Int32) (VY : Nat → Nat → Int32) (cp cl U k9 : Nat) (hk9 : 6 * k9 + 6 ≤ L9) (hL9 : L9 ≤ 3072) (f0 : Nat) {H : Heap} {locs : List Loc} {ls : Array Slot} (hPD : zPD (dC, dI) classes (fun q : Nat => s.heap.size ≤ q) (((oc8 x (.ref sh) (.ref lw) (.ref ro) (.ref bq) (.ref bp) (.ref dq) (.ref dp) (.ref lv) (.ref sl) (nI dn) (nI bs) ul su) :: (oc10 sl mc9 (.ref ea) (nI T)) :: (oc7 sh (.ref fa) (nI ft)) :: (oq fa cF 200 FA) :: (oc3 lw (.ref dr) (.ref tg) (.ref wy) (.ref br) (.ref bo) (.ref aa)) :: (oc6 dr (.ref dx) (.ref dy) (nI nd) rd) :: (oa dx cI 40 P) :: (oa dy cI 40 Q) :: (oc6 tg (.ref tx) (.ref ty) (nI nt) rt) :: (oa tx cI 3 TX) :: (oa ty cI 3 TY) :: (oc6 wy (.ref wx) (.ref wz) (nI nw) rw) :: (oa wx cI 2 WX) :: (oa wz cI 2 WY) :: (oc0 br b1 b2 b3 b4) :: (oc0 bo b5 b6 b7 b8) :: (oa aa cI 40 AR) :: (oc5 ro (.ref za) (.ref zw) (.ref zx) (.ref zy) (.ref zg) nv) :: (oq za cF 200 RA) :: (oa zw cI 200 WT) :: (oa zx cI 400 EX) :: (oa zy cI 400 EY) :: (oa zg cI 400 GR) :: (oc0 bq c1 c2 c3 c4) :: (oc0 bp a1 a2 a3 a4) :: (oc2 dq y1 y2) :: (oc2 dp y3 y4) :: (oa lv cZ 200 LV) :: (om k0 a (upd I0 26 (nI ln)) J0) :: (oa (a 1) cI 201 kd) :: (oa (a 5) cI 201 st) :: (oa (a 7) cI 201 gb) :: (oa (a 10) cI 201 it) :: (oa (a 8) cI 201 pa) :: (oa (a 9) cI 201 pb) :: (oa (a 2) cI 201 rk) :: (oa (a 3) cI 201 wd) :: (oa (a 4) cI 201 tw) :: (oa (a 6) cZ 201 tn) :: (oa (a 11) cI 201 mn) :: (oa (a 12) cI 8040 cx) :: (oa (a 13) cI 8040 cy) :: (oa (a 27) cI 516 sa) :: (oa (a 28) cI (4096 * cp) shs) :: (oa (a 16) cI 514 wh) :: (oa (a 17) cI 514 of9) :: (oa (a 18) cI 514 we) :: (oa (a 22) cI (64 * cl) la) :: (oa (a 23) cI (64 * cl) lb) :: (oa (a 24) cI (64 * cl) lc) :: (oa (a 25) cI (64 * cl) ld) :: (oa (a 29) cI 42 P0) :: (oa (a 30) cI 42 Q0) :: (oa (a 32) cI 8 S0) :: (oa (a 33) cI 42 ox) :: (oa (a 34) cI 42 oy) :: (oa (a 37) cZ 201 mt) :: (oa (a 38) cZ 201 wi) :: (oa (a 39) cZ 8040 ins) :: (oa (a 40) cI 6 T0) :: (oa (a 43) cZ 40 fl) :: (oa (a 50) cZ 201 mk) :: (oa (a 51) cI 402 jx) :: (oa (a 52) cI 402 jy) :: (oa (a 53) cI 402 gr) :: []) ++ va_pl L f) H) (hS : va_S (fun q : Nat => s.heap.size ≤ q) s.heap H locs) (hl : lv_has ls 4 [(3, .int (nI (6 * k9))), (2, .ref k0), (1, .ref x), (0, .ref b)]) (hB : shB cI cO L f e0 FA ea bs dn T ft FT V VX VY tn rk wd tw pa pb wh of9 we kd st gb it mn cx cy) (hI : INV k9 Sn AD C cc W9 bs T ft cp ln cl FT V VX VY tn rk wd tw pa pb kd st it mn cx cy sa shs lb lc) (hM : I0 0 = nI ft ∧ I0 19 = nI dn ∧ I0 20 = nI (T - dn) ∧ I0 21 = nI bs) (hU : U ≤ Sn * (28 * (AD + C) + 1000) + 200 * (AD + C)) (hf0 : f0 < ft) (hv1 : xs (6 * k9 + 3) = nI f0) (hbad : ¬ ((0 ≤ (xs (6 * k9 + 1)).toInt ∧ (xs (6 * k9 + 1)).toInt ≤ 1000 ∧ 0 ≤ (xs (6 * k9 + 2)).toInt ∧ (xs (6 * k9 + 2)).toInt ≤ 1000) ∧ lvF ft st tn f0 ∧ ¬ (kd f0).toInt = 0 ∧ 0 ≤ (xs (6 * k9 + 4)).toInt ∧ (xs (6 * k9 + 4)).toInt < ((eO (kd f0).toInt (nN (mn f0)) : Nat) : Int))) (hnext : ∀ (cp1 cl1 U1 : Nat) (H : Heap) (locs : List Loc) (ls : Array Slot), lawI s dC dI cI cZ cF cO e0 mi x sl sh fa lw dr dx dy tg tx ty wy wx wz br bo aa ro za zw zx zy zg bq bp dq dp lv k0 (k9 + 1) cp1 cl1 U1 H → va_S (fun q : Nat => s.heap.size ≤ q) s.heap H locs → lv_has ls 4 [(3, .int (nI (6 * k9))), (2, .ref k0), (1, .ref x), (0, .ref b)] → W p l e room_1 s m #[Value.ref b] below meth c H locs (1000 + 1010 * (k9 + 1) + cp1 + 4 * cl1) (45000 + 8192 * cp1 + 512 * cl1 + U1) (lw_Z below #[Value.ref b] s) (F0 m 1081 ls [])) : W p l e room_1 s m #[Value.ref b] below meth c H locs (1000 + 1010 * k9 + cp + 4 * cl) (45000 + 8192 * cp + 512 * cl + U) (lw_Z below #[Value.ref b] s) (F0 m 718 ls []) := by
  obtain ⟨hP, hD⟩ := hPD
  obtain ⟨hx, hb, hr, hml, hown, hts1, hX, hbl, hlocks, hgv⟩ := id C0
  have hts : ∀ w9 ∈ ws0, w9.before #[Value.ref b] s = true := fun w9 h => hts1 w9 (List.mem_filter.mp h).1
  have hA : ∀ q : Nat, s.heap.size ≤ q → (fun q : Nat => s.heap.size ≤ q) q := fun _ h => h
  have hbA : ¬ (fun q : Nat => s.heap.size ≤ q) b := Nat.not_le.mpr hbl
  have hXN := hXL.1
  have hK3 := hK.sub [0, 1, 2] rfl
  obtain ⟨hm0, hm19, hm20, hm21⟩ := hM
  have hpo := shB_po hB
  have hK512 : k9 + 1 ≤ 512 := r9_k hk9 hL9
  have hwfS := hI.1.1
  have hbdC := hI.1.2.2.1
  have hT0 := hI.1.2.2.2
  have hd9 := hpo.1
  have h200t : ∀ t, bs ≤ t → t ≤ T → FT t ≤ 200 := fun t t1 t2 => Nat.le_trans (hpo.2.1 t T t1 t2 (Nat.le_refl _)) hd9.2.2.2.2
  have h200f : ft ≤ 200 := (by rw [hd9.2.2.2.1]; exact h200t dn hd9.1 hd9.2.1)
  have hrkA : ∀ q, lvF ft st tn q → 0 ≤ (rk q).toInt ∧ (rk q).toInt ≤ 9 := fun q hq => (hI.1.2.1 q (Nat.lt_of_lt_of_le hq.1 (by rw [hd9.2.2.2.1]; exact hpo.2.1 dn T hd9.1 hd9.2.1 (Nat.le_refl _)))).1
  have hwdA : ∀ q, q < ft → 0 ≤ (wd q).toInt ∧ (wd q).toInt ≤ 100 := fun q hq => (hI.1.2.1 q (Nat.lt_of_lt_of_le hq (by rw [hd9.2.2.2.1]; exact hpo.2.1 dn T hd9.1 hd9.2.1 (Nat.le_refl _)))).2
  have hcp5 := INV_cp hI (Nat.le_of_succ_le hK512)
  have hcp1 := hI.2.2.1.2.1
  have hcnt := hI.2.2.2.1
  have hlst := hI.2.2.2.2
  have hlb := mul_514 (a := Sn) (b := C) (r9_s hcnt.2.1 hK512).2.1
  have hftA := bdC_F hbdC
  have hrm := room_c (Sn := Sn) (AD := AD) (C := C) (c := cp) (cl := cl) (U := U) (r9_s hcnt.2.1 hK512).1 hI.2.2.1.2.2.2.2.2 hlst.2.2.2.1 hU
  have hrc : 1000 + 1010 * k9 + cp + 4 * cl ≤ 600000 := (by omega)
  have hefA : ∀ q, lvF ft st tn q → 1 ≤ eO (kd q).toInt (nN (mn q)) := fun q hq => eO_1 (wfS_kn hwfS q hq)
  refine la_18_1 l C0 hk9 hL9 hS hl (rfl) (rfl) (hv1) (rfl) ?_
  obtain ⟨hPc, hDc, hFc⟩ := zt_3 hP hD hS hA
  refine zcalle (va_runV (As := [.int (xs (6 * k9 + 1)), .int (xs (6 * k9 + 2)), .int (nI f0), .int (xs (6 * k9 + 4))]) (rest := []) ⟨hx, hb, hml, hown, hts⟩ (k_side_a l dC dI cI cZ cF H.size x sh lw ro bq bp dq dp lv sl (nI bs) ul su (nI dn) fa ft FA f0 L f kd st tn mn cx cy rk wd tw pa pb gb it (xs (6 * k9 + 1)) (xs (6 * k9 + 2)) (xs (6 * k9 + 4)) (h200f) (hf0) (shB_va hB)) (csV_265 hts rfl rfl ⟨Nat.le_of_ble_eq_true rfl, Nat.le_of_ble_eq_true rfl⟩) (zPV2 (q0 := 0) (ci := 8) hPc hDc hK3 hXN rfl rfl) rfl rfl hl.1 rfl (lv_room (Nat.le_of_ble_eq_true rfl)) dL_law_739 ⟨hrc, hrm⟩) hS hFc hFc (fun v9 t H locs ht hB hk1 hS => ?_)
  obtain ⟨q_1, rfl, hP1, hD1⟩ := hB
  refine W.eq (g2 := F0 m 742 ls [.int q_1]) rfl ?_
  rw [ht] at hP1
  obtain ⟨hP, hD⟩ := zs_3  hP hD hk1 hFc hP1 hD1
  clear hk1 hPc hDc hFc hP1 hD1 ht
  refine lv_pop hx hb dL_law_742 rfl ?_
  refine la_18_2 l C0 hk9 hL9 hS hl (rfl) (rfl) (hv1) (rfl) ?_
  obtain ⟨hPc, hDc, hFc, hI1⟩ := zi_sub (wc := [_, _, _, _, _]) hP hD hS hA [28, 30, 38, 29, 39] (by decide +kernel) rfl
  refine zcall (st1 := [.int 0]) (va_runV (As := [.int (xs (6 * k9 + 1)), .int (xs (6 * k9 + 2)), .int (nI f0), .int (xs (6 * k9 + 4))]) (rest := []) ⟨hx, hb, hml, hown, hts⟩ (k_M_side_r l dC dI cI cZ cF H.size k0 a (upd I0 26 (nI ln)) J0 f0 ft (xs (6 * k9 + 1)) (xs (6 * k9 + 2)) (xs (6 * k9 + 4)) st tn kd mn (hm0) (h200f) (by first | with_reducible assumption | omega) (fun h => ⟨(wfS_wf hwfS f0 h).1, (wfS_wf hwfS f0 h).2.1⟩) (hbad)) (csV_266 hts rfl rfl ⟨Nat.le_of_ble_eq_true rfl, Nat.le_of_ble_eq_true rfl⟩) (zPV2 (q0 := 0) (ci := 9) hPc hDc hK3 hXN rfl rfl) rfl rfl hl.1 rfl (lv_room (Nat.le_of_ble_eq_true rfl)) dL_law_764 ⟨hrc, hrm⟩) hS hFc hFc rfl (fun t H locs ht hB hk1 hS => ?_)
  obtain ⟨hP1, hD1⟩ := hB
  rw [ht] at hP1
  replace hP := z0 hP hD hk1 hP1 hI1
  clear hk1 hPc hDc hFc hP1 hD1 ht hI1
  refine lv_pop hx hb dL_law_767 rfl ?_
  refine lv_goto (tgt := 1081) hx hb dL_law_768 rfl ?_
  obtain ⟨hP9, hD9⟩ := And.intro hP hD
  refine W.widen (k := 1000 + 1010 * (k9 + 1) + cp + 4 * cl) (n := 45000 + 8192 * cp + 512 * cl + U) (by first | exact wdK | omega) (by first | exact Nat.le_refl _ | omega) ?_
  exact hnext cp cl U H locs ls (lawI_in L f FA ea nd nt nw ul su mc9 rd rt rw P Q TX TY WX WY AR b1 b2 b3 b4 b5 b6 b7 b8 c1 c2 c3 c4 a1 a2 a3 a4 nv RA WT EX EY GR LV y1 y2 y3 y4 a I0 J0 kd st gb it pa pb rk wd tw tn mn cx cy sa shs wh of9 we la lb lc ld P0 Q0 S0 ox oy mt wi ins T0 fl mk jx jy gr bs dn T ft Sn AD C ln FT cc W9 V VX VY hP9 hD9 (hB) (INV_K hI) ⟨hm0, hm19, hm20, hm21⟩ (by first | exact hU | omega)) hS (lv_sub hl [0, 1, 2, 3] rfl)
end
section
set_option maxHeartbeats 4000000 in
set_option maxRecDepth 100000 in
theorem lc_side_y {p : Program} {e : Env} {s : State} {m : MethodId} {below : List Frame} {meth : Method} {c : Code} (l : Launch) {b L9 : Nat} {xs : Nat → Int32} (C0 : lw_At p s m meth c b L9 xs) (dC : Nat → ClassId) (dI : Nat → Nat → Nat) (cI cZ cF cO : ClassId) (e0 mi : Nat) (x sl sh fa lw dr dx dy tg tx ty wy wx wz br bo aa ro za zw zx zy zg bq bp dq dp lv k0 : Nat) (hK : va_K (dC, dI) classes (zTyO cI cZ cF cO) s) (hXL : zXL e0 mi (fun q : Nat => s.heap.size ≤ q) s) (L : List Nat) (f : Nat → va_E) (FA : Nat → Option Nat) (ea : Nat) (nd : Nat) (nt : Nat) (nw : Nat) (ul : Int32) (su : Int32) (mc9 : Int32) (rd : Int32) (rt : Int32) (rw : Int32) (P : Nat → Int32) (Q : Nat → Int32) (TX : Nat → Int32) (TY : Nat → Int32) (WX : Nat → Int32) (WY : Nat → Int32) (AR : Nat → Int32) (b1 : Int32) (b2 : Int32) (b3 : Int32) (b4 : Int32) (b5 : Int32) (b6 : Int32) (b7 : Int32) (b8 : Int32) (c1 : Int32) (c2 : Int32) (c3 : Int32) (c4 : Int32) (a1 : Int32) (a2 : Int32) (a3 : Int32) (a4 : Int32) (nv : Int32) (RA : Nat → Option Nat) (WT : Nat → Int32) (EX : Nat → Int32) (EY : Nat → Int32) (GR : Nat → Int32) (LV : Nat → Int32) (y1 : Int64) (y2 : Int64) (y3 : Int64) (y4 : Int64) (a : Nat → Nat) (I0 : Nat → Int32) (J0 : Nat → Int64) (kd : Nat → Int32) (st : Nat → Int32) (gb : Nat → Int32) (it : Nat → Int32) (pa : Nat → Int32) (pb : Nat → Int32) (rk : Nat → Int32) (wd : Nat → Int32) (tw : Nat → Int32) (tn : Nat → Int32) (mn : Nat → Int32) (cx : Nat → Int32) (cy : Nat → Int32) (sa : Nat → Int32) (shs : Nat → Int32) (wh : Nat → Int32) (of9 : Nat → Int32) (we : Nat → Int32) (la : Nat → Int32) (lb : Nat → Int32) (lc : Nat → Int32) (ld : Nat → Int32) (P0 : Nat → Int32) (Q0 : Nat → Int32) (S0 : Nat → Int32) (ox : Nat → Int32) (oy : Nat → Int32) (mt : Nat → Int32) (wi : Nat → Int32) (ins : Nat → Int32) (T0 : Nat → Int32) (fl : Nat → Int32) (mk : Nat → Int32) (jx : Nat → Int32) (jy : Nat → Int32) (gr : Nat → Int32) (bs : Nat) (dn : Nat) (T : Nat) (ft : Nat) (Sn : Nat) (AD : Nat) (C : Nat) (ln : Nat) (FT : Nat → Nat) (cc : Nat → Nat) (W9 : Nat → Nat) (V : Nat → Nat → Nat → Int32) (VX : Nat → Nat → Int32) (VY : Nat → Nat → Int32) (cp cl U k9 : Nat) (hk9 : 6 * k9 + 6 ≤ L9) (hL9 : L9 ≤ 3072) (f0 : Nat) (kk : Nat) {H : Heap} {locs : List Loc} {ls : Array Slot} (hPD : zPD (dC, dI) classes (fun q : Nat => s.heap.size ≤ q) (((oc8 x (.ref sh) (.ref lw) (.ref ro) (.ref bq) (.ref bp) (.ref dq) (.ref dp) (.ref lv) (.ref sl) (nI dn) (nI bs) ul su) :: (oc10 sl mc9 (.ref ea) (nI T)) :: (oc7 sh (.ref fa) (nI ft)) :: (oq fa cF 200 FA) :: (oc3 lw (.ref dr) (.ref tg) (.ref wy) (.ref br) (.ref bo) (.ref aa)) :: (oc6 dr (.ref dx) (.ref dy) (nI nd) rd) :: (oa dx cI 40 P) :: (oa dy cI 40 Q) :: (oc6 tg (.ref tx) (.ref ty) (nI nt) rt) :: (oa tx cI 3 TX) :: (oa ty cI 3 TY) :: (oc6 wy (.ref wx) (.ref wz) (nI nw) rw) :: (oa wx cI 2 WX) :: (oa wz cI 2 WY) :: (oc0 br b1 b2 b3 b4) :: (oc0 bo b5 b6 b7 b8) :: (oa aa cI 40 AR) :: (oc5 ro (.ref za) (.ref zw) (.ref zx) (.ref zy) (.ref zg) nv) :: (oq za cF 200 RA) :: (oa zw cI 200 WT) :: (oa zx cI 400 EX) :: (oa zy cI 400 EY) :: (oa zg cI 400 GR) :: (oc0 bq c1 c2 c3 c4) :: (oc0 bp a1 a2 a3 a4) :: (oc2 dq y1 y2) :: (oc2 dp y3 y4) :: (oa lv cZ 200 LV) :: (om k0 a (upd I0 26 (nI ln)) J0) :: (oa (a 1) cI 201 kd) :: (oa (a 5) cI 201 st) :: (oa (a 7) cI 201 gb) :: (oa (a 10) cI 201 it) :: (oa (a 8) cI 201 pa) :: (oa (a 9) cI 201 pb) :: (oa (a 2) cI 201 rk) :: (oa (a 3) cI 201 wd) :: (oa (a 4) cI 201 tw) :: (oa (a 6) cZ 201 tn) :: (oa (a 11) cI 201 mn) :: (oa (a 12) cI 8040 cx) :: (oa (a 13) cI 8040 cy) :: (oa (a 27) cI 516 sa) :: (oa (a 28) cI (4096 * cp) shs) :: (oa (a 16) cI 514 wh) :: (oa (a 17) cI 514 of9) :: (oa (a 18) cI 514 we) :: (oa (a 22) cI (64 * cl) la) :: (oa (a 23) cI (64 * cl) lb) :: (oa (a 24) cI (64 * cl) lc) :: (oa (a 25) cI (64 * cl) ld) :: (oa (a 29) cI 42 P0) :: (oa (a 30) cI 42 Q0) :: (oa (a 32) cI 8 S0) :: (oa (a 33) cI 42 ox) :: (oa (a 34) cI 42 oy) :: (oa (a 37) cZ 201 mt) :: (oa (a 38) cZ 201 wi) :: (oa (a 39) cZ 8040 ins) :: (oa (a 40) cI 6 T0) :: (oa (a 43) cZ 40 fl) :: (oa (a 50) cZ 201 mk) :: (oa (a 51) cI 402 jx) :: (oa (a 52) cI 402 jy) :: (oa (a 53) cI 402 gr) :: []) ++ va_pl L f) H) (hS : va_S (fun q : Nat => s.heap.size ≤ q) s.heap H locs) (hl : lv_has ls 4 [(3, .int (nI (6 * k9))), (2, .ref k0), (1, .ref x), (0, .ref b)]) (hB : shB cI cO L f e0 FA ea bs dn T ft FT V VX VY tn rk wd tw pa pb wh of9 we kd st gb it mn cx cy) (hI : INV k9 Sn AD C cc W9 bs T ft cp ln cl FT V VX VY tn rk wd tw pa pb kd st it mn cx cy sa shs lb lc) (hM : I0 0 = nI ft ∧ I0 19 = nI dn ∧ I0 20 = nI (T - dn) ∧ I0 21 = nI bs) (hU : U ≤ Sn * (28 * (AD + C) + 1000) + 200 * (AD + C)) (hf0 : f0 < ft) (hv1 : xs (6 * k9 + 3) = nI f0) (hgd : (0 ≤ (xs (6 * k9 + 1)).toInt ∧ (xs (6 * k9 + 1)).toInt ≤ 1000 ∧ 0 ≤ (xs (6 * k9 + 2)).toInt ∧ (xs (6 * k9 + 2)).toInt ≤ 1000) ∧ lvF ft st tn f0 ∧ ¬ (kd f0).toInt = 0 ∧ kk < eO (kd f0).toInt (nN (mn f0))) (hv4 : xs (6 * k9 + 4) = nI kk) (hnext : ∀ (cp1 cl1 U1 : Nat) (H : Heap) (locs : List Loc) (ls : Array Slot), lawI s dC dI cI cZ cF cO e0 mi x sl sh fa lw dr dx dy tg tx ty wy wx wz br bo aa ro za zw zx zy zg bq bp dq dp lv k0 (k9 + 1) cp1 cl1 U1 H → va_S (fun q : Nat => s.heap.size ≤ q) s.heap H locs → lv_has ls 4 [(3, .int (nI (6 * k9))), (2, .ref k0), (1, .ref x), (0, .ref b)] → W p l e room_1 s m #[Value.ref b] below meth c H locs (1000 + 1010 * (k9 + 1) + cp1 + 4 * cl1) (45000 + 8192 * cp1 + 512 * cl1 + U1) (lw_Z below #[Value.ref b] s) (F0 m 1081 ls [])) : W p l e room_1 s m #[Value.ref b] below meth c H locs (1000 + 1010 * k9 + cp + 4 * cl) (45000 + 8192 * cp + 512 * cl + U) (lw_Z below #[Value.ref b] s) (F0 m 718 ls []) := by
  obtain ⟨hP, hD⟩ := hPD
  obtain ⟨hx, hb, hr, hml, hown, hts1, hX, hbl, hlocks, hgv⟩ := id C0
  have hts : ∀ w9 ∈ ws0, w9.before #[Value.ref b] s = true := fun w9 h => hts1 w9 (List.mem_filter.mp h).1
  have hA : ∀ q : Nat, s.heap.size ≤ q → (fun q : Nat => s.heap.size ≤ q) q := fun _ h => h
  have hbA : ¬ (fun q : Nat => s.heap.size ≤ q) b := Nat.not_le.mpr hbl
  have hXN := hXL.1
  have hK3 := hK.sub [0, 1, 2] rfl
  obtain ⟨hm0, hm19, hm20, hm21⟩ := hM
  have hpo := shB_po hB
  have hK512 : k9 + 1 ≤ 512 := r9_k hk9 hL9
  have hwfS := hI.1.1
  have hbdC := hI.1.2.2.1
  have hT0 := hI.1.2.2.2
  have hd9 := hpo.1
  have h200t : ∀ t, bs ≤ t → t ≤ T → FT t ≤ 200 := fun t t1 t2 => Nat.le_trans (hpo.2.1 t T t1 t2 (Nat.le_refl _)) hd9.2.2.2.2
  have h200f : ft ≤ 200 := (by rw [hd9.2.2.2.1]; exact h200t dn hd9.1 hd9.2.1)
  have hrkA : ∀ q, lvF ft st tn q → 0 ≤ (rk q).toInt ∧ (rk q).toInt ≤ 9 := fun q hq => (hI.1.2.1 q (Nat.lt_of_lt_of_le hq.1 (by rw [hd9.2.2.2.1]; exact hpo.2.1 dn T hd9.1 hd9.2.1 (Nat.le_refl _)))).1
  have hwdA : ∀ q, q < ft → 0 ≤ (wd q).toInt ∧ (wd q).toInt ≤ 100 := fun q hq => (hI.1.2.1 q (Nat.lt_of_lt_of_le hq (by rw [hd9.2.2.2.1]; exact hpo.2.1 dn T hd9.1 hd9.2.1 (Nat.le_refl _)))).2
  have hcp5 := INV_cp hI (Nat.le_of_succ_le hK512)
  have hcp1 := hI.2.2.1.2.1
  have hcnt := hI.2.2.2.1
  have hlst := hI.2.2.2.2
  have hlb := mul_514 (a := Sn) (b := C) (r9_s hcnt.2.1 hK512).2.1
  have hftA := bdC_F hbdC
  have hrm := room_c (Sn := Sn) (AD := AD) (C := C) (c := cp) (cl := cl) (U := U) (r9_s hcnt.2.1 hK512).1 hI.2.2.1.2.2.2.2.2 hlst.2.2.2.1 hU
  have hrc : 1000 + 1010 * k9 + cp + 4 * cl ≤ 600000 := (by omega)
  have hefA : ∀ q, lvF ft st tn q → 1 ≤ eO (kd q).toInt (nN (mn q)) := fun q hq => eO_1 (wfS_kn hwfS q hq)
  refine la_18_1 l C0 hk9 hL9 hS hl (rfl) (rfl) (hv1) (hv4) ?_
  obtain ⟨hPc, hDc, hFc⟩ := zt_3 hP hD hS hA
  refine zcalle (va_runV (As := [.int (xs (6 * k9 + 1)), .int (xs (6 * k9 + 2)), .int (nI f0), .int (nI kk)]) (rest := []) ⟨hx, hb, hml, hown, hts⟩ (k_side_a l dC dI cI cZ cF H.size x sh lw ro bq bp dq dp lv sl (nI bs) ul su (nI dn) fa ft FA f0 L f kd st tn mn cx cy rk wd tw pa pb gb it (xs (6 * k9 + 1)) (xs (6 * k9 + 2)) (nI kk) (h200f) (hf0) (shB_va hB)) (csV_265 hts rfl rfl ⟨Nat.le_of_ble_eq_true rfl, Nat.le_of_ble_eq_true rfl⟩) (zPV2 (q0 := 0) (ci := 8) hPc hDc hK3 hXN rfl rfl) rfl rfl hl.1 rfl (lv_room (Nat.le_of_ble_eq_true rfl)) dL_law_739 ⟨hrc, hrm⟩) hS hFc hFc (fun v9 t H locs ht hB hk1 hS => ?_)
  obtain ⟨q_1, rfl, hP1, hD1⟩ := hB
  refine W.eq (g2 := F0 m 742 ls [.int q_1]) rfl ?_
  rw [ht] at hP1
  obtain ⟨hP, hD⟩ := zs_3  hP hD hk1 hFc hP1 hD1
  clear hk1 hPc hDc hFc hP1 hD1 ht
  refine lv_pop hx hb dL_law_742 rfl ?_
  refine la_18_2 l C0 hk9 hL9 hS hl (rfl) (rfl) (hv1) (hv4) ?_
  obtain ⟨hPc, hDc, hFc⟩ := zt_7 hP hD hS hA
  refine zcall (st1 := [.int (iI (sg (eCr (nN (mn f0)) (cF40 cx f0) (cF40 cy f0) kk (xs (6 * k9 + 1)).toInt (xs (6 * k9 + 2)).toInt)))]) (va_runV (As := [.int (xs (6 * k9 + 1)), .int (xs (6 * k9 + 2)), .int (nI f0), .int (nI kk)]) (rest := []) ⟨hx, hb, hml, hown, hts⟩ (k_M_side_y l dC dI cI cZ cF H.size k0 a (upd I0 26 (nI ln)) J0 f0 kk ft (xs (6 * k9 + 1)) (xs (6 * k9 + 2)) st tn kd mn cx cy S0 (hm0) (h200f) (wfS_wf hwfS) (by first | with_reducible assumption | omega) (hgd.2.1) (hgd.2.2.1) (hgd.1) (hgd.2.2.2)) (csV_266 hts rfl rfl ⟨Nat.le_of_ble_eq_true rfl, Nat.le_of_ble_eq_true rfl⟩) (zPV2 (q0 := 0) (ci := 9) hPc hDc hK3 hXN rfl rfl) rfl rfl hl.1 rfl (lv_room (Nat.le_of_ble_eq_true rfl)) dL_law_764 ⟨hrc, hrm⟩) hS hFc hFc rfl (fun t H locs ht hB hk1 hS => ?_)
  obtain ⟨q_2, hP1, hD1⟩ := hB
  rw [ht] at hP1
  obtain ⟨hP, hD⟩ := zs_7 (u53 := (oa (a 32) cI 8 q_2)) hP hD hk1 hFc hP1 hD1
  clear hk1 hPc hDc hFc hP1 hD1 ht
  refine lv_pop hx hb dL_law_767 rfl ?_
  refine lv_goto (tgt := 1081) hx hb dL_law_768 rfl ?_
  obtain ⟨hP9, hD9⟩ := And.intro hP hD
  refine W.widen (k := 1000 + 1010 * (k9 + 1) + cp + 4 * cl) (n := 45000 + 8192 * cp + 512 * cl + U) (by first | exact wdK | omega) (by first | exact Nat.le_refl _ | omega) ?_
  exact hnext cp cl U H locs ls (lawI_in L f FA ea nd nt nw ul su mc9 rd rt rw P Q TX TY WX WY AR b1 b2 b3 b4 b5 b6 b7 b8 c1 c2 c3 c4 a1 a2 a3 a4 nv RA WT EX EY GR LV y1 y2 y3 y4 a I0 J0 kd st gb it pa pb rk wd tw tn mn cx cy sa shs wh of9 we la lb lc ld P0 Q0 q_2 ox oy mt wi ins T0 fl mk jx jy gr bs dn T ft Sn AD C ln FT cc W9 V VX VY hP9 hD9 (hB) (INV_K hI) ⟨hm0, hm19, hm20, hm21⟩ (by first | exact hU | omega)) hS (lv_sub hl [0, 1, 2, 3] rfl)
set_option maxHeartbeats 4000000 in
set_option maxRecDepth 100000 in
theorem lc_far_x {p : Program} {e : Env} {s : State} {m : MethodId} {below : List Frame} {meth : Method} {c : Code} (l : Launch) {b L9 : Nat} {xs : Nat → Int32} (C0 : lw_At p s m meth c b L9 xs) (dC : Nat → ClassId) (dI : Nat → Nat → Nat) (cI cZ cF cO : ClassId) (e0 mi : Nat) (x sl sh fa lw dr dx dy tg tx ty wy wx wz br bo aa ro za zw zx zy zg bq bp dq dp lv k0 : Nat) (hK : va_K (dC, dI) classes (zTyO cI cZ cF cO) s) (hXL : zXL e0 mi (fun q : Nat => s.heap.size ≤ q) s) (L : List Nat) (f : Nat → va_E) (FA : Nat → Option Nat) (ea : Nat) (nd : Nat) (nt : Nat) (nw : Nat) (ul : Int32) (su : Int32) (mc9 : Int32) (rd : Int32) (rt : Int32) (rw : Int32) (P : Nat → Int32) (Q : Nat → Int32) (TX : Nat → Int32) (TY : Nat → Int32) (WX : Nat → Int32) (WY : Nat → Int32) (AR : Nat → Int32) (b1 : Int32) (b2 : Int32) (b3 : Int32) (b4 : Int32) (b5 : Int32) (b6 : Int32) (b7 : Int32) (b8 : Int32) (c1 : Int32) (c2 : Int32) (c3 : Int32) (c4 : Int32) (a1 : Int32) (a2 : Int32) (a3 : Int32) (a4 : Int32) (nv : Int32) (RA : Nat → Option Nat) (WT : Nat → Int32) (EX : Nat → Int32) (EY : Nat → Int32) (GR : Nat → Int32) (LV : Nat → Int32) (y1 : Int64) (y2 : Int64) (y3 : Int64) (y4 : Int64) (a : Nat → Nat) (I0 : Nat → Int32) (J0 : Nat → Int64) (kd : Nat → Int32) (st : Nat → Int32) (gb : Nat → Int32) (it : Nat → Int32) (pa : Nat → Int32) (pb : Nat → Int32) (rk : Nat → Int32) (wd : Nat → Int32) (tw : Nat → Int32) (tn : Nat → Int32) (mn : Nat → Int32) (cx : Nat → Int32) (cy : Nat → Int32) (sa : Nat → Int32) (shs : Nat → Int32) (wh : Nat → Int32) (of9 : Nat → Int32) (we : Nat → Int32) (la : Nat → Int32) (lb : Nat → Int32) (lc : Nat → Int32) (ld : Nat → Int32) (P0 : Nat → Int32) (Q0 : Nat → Int32) (S0 : Nat → Int32) (ox : Nat → Int32) (oy : Nat → Int32) (mt : Nat → Int32) (wi : Nat → Int32) (ins : Nat → Int32) (T0 : Nat → Int32) (fl : Nat → Int32) (mk : Nat → Int32) (jx : Nat → Int32) (jy : Nat → Int32) (gr : Nat → Int32) (bs : Nat) (dn : Nat) (T : Nat) (ft : Nat) (Sn : Nat) (AD : Nat) (C : Nat) (ln : Nat) (FT : Nat → Nat) (cc : Nat → Nat) (W9 : Nat → Nat) (V : Nat → Nat → Nat → Int32) (VX : Nat → Nat → Int32) (VY : Nat → Nat → Int32) (cp cl U k9 : Nat) (hk9 : 6 * k9 + 6 ≤ L9) (hL9 : L9 ≤ 3072) {H : Heap} {locs : List Loc} {ls : Array Slot} (hPD : zPD (dC, dI) classes (fun q : Nat => s.heap.size ≤ q) (((oc8 x (.ref sh) (.ref lw) (.ref ro) (.ref bq) (.ref bp) (.ref dq) (.ref dp) (.ref lv) (.ref sl) (nI dn) (nI bs) ul su) :: (oc10 sl mc9 (.ref ea) (nI T)) :: (oc7 sh (.ref fa) (nI ft)) :: (oq fa cF 200 FA) :: (oc3 lw (.ref dr) (.ref tg) (.ref wy) (.ref br) (.ref bo) (.ref aa)) :: (oc6 dr (.ref dx) (.ref dy) (nI nd) rd) :: (oa dx cI 40 P) :: (oa dy cI 40 Q) :: (oc6 tg (.ref tx) (.ref ty) (nI nt) rt) :: (oa tx cI 3 TX) :: (oa ty cI 3 TY) :: (oc6 wy (.ref wx) (.ref wz) (nI nw) rw) :: (oa wx cI 2 WX) :: (oa wz cI 2 WY) :: (oc0 br b1 b2 b3 b4) :: (oc0 bo b5 b6 b7 b8) :: (oa aa cI 40 AR) :: (oc5 ro (.ref za) (.ref zw) (.ref zx) (.ref zy) (.ref zg) nv) :: (oq za cF 200 RA) :: (oa zw cI 200 WT) :: (oa zx cI 400 EX) :: (oa zy cI 400 EY) :: (oa zg cI 400 GR) :: (oc0 bq c1 c2 c3 c4) :: (oc0 bp a1 a2 a3 a4) :: (oc2 dq y1 y2) :: (oc2 dp y3 y4) :: (oa lv cZ 200 LV) :: (om k0 a (upd I0 26 (nI ln)) J0) :: (oa (a 1) cI 201 kd) :: (oa (a 5) cI 201 st) :: (oa (a 7) cI 201 gb) :: (oa (a 10) cI 201 it) :: (oa (a 8) cI 201 pa) :: (oa (a 9) cI 201 pb) :: (oa (a 2) cI 201 rk) :: (oa (a 3) cI 201 wd) :: (oa (a 4) cI 201 tw) :: (oa (a 6) cZ 201 tn) :: (oa (a 11) cI 201 mn) :: (oa (a 12) cI 8040 cx) :: (oa (a 13) cI 8040 cy) :: (oa (a 27) cI 516 sa) :: (oa (a 28) cI (4096 * cp) shs) :: (oa (a 16) cI 514 wh) :: (oa (a 17) cI 514 of9) :: (oa (a 18) cI 514 we) :: (oa (a 22) cI (64 * cl) la) :: (oa (a 23) cI (64 * cl) lb) :: (oa (a 24) cI (64 * cl) lc) :: (oa (a 25) cI (64 * cl) ld) :: (oa (a 29) cI 42 P0) :: (oa (a 30) cI 42 Q0) :: (oa (a 32) cI 8 S0) :: (oa (a 33) cI 42 ox) :: (oa (a 34) cI 42 oy) :: (oa (a 37) cZ 201 mt) :: (oa (a 38) cZ 201 wi) :: (oa (a 39) cZ 8040 ins) :: (oa (a 40) cI 6 T0) :: (oa (a 43) cZ 40 fl) :: (oa (a 50) cZ 201 mk) :: (oa (a 51) cI 402 jx) :: (oa (a 52) cI 402 jy) :: (oa (a 53) cI 402 gr) :: []) ++ va_pl L f) H) (hS : va_S (fun q : Nat => s.heap.size ≤ q) s.heap H locs) (hl : lv_has ls 4 [(3, .int (nI (6 * k9))), (2, .ref k0), (1, .ref x), (0, .ref b)]) (hB : shB cI cO L f e0 FA ea bs dn T ft FT V VX VY tn rk wd tw pa pb wh of9 we kd st gb it mn cx cy) (hI : INV k9 Sn AD C cc W9 bs T ft cp ln cl FT V VX VY tn rk wd tw pa pb kd st it mn cx cy sa shs lb lc) (hM : I0 0 = nI ft ∧ I0 19 = nI dn ∧ I0 20 = nI (T - dn) ∧ I0 21 = nI bs) (hU : U ≤ Sn * (28 * (AD + C) + 1000) + 200 * (AD + C)) (hbad : ¬ (0 ≤ (xs (6 * k9 + 1)).toInt ∧ (xs (6 * k9 + 1)).toInt < ((ft : Nat) : Int))) (hnext : ∀ (cp1 cl1 U1 : Nat) (H : Heap) (locs : List Loc) (ls : Array Slot), lawI s dC dI cI cZ cF cO e0 mi x sl sh fa lw dr dx dy tg tx ty wy wx wz br bo aa ro za zw zx zy zg bq bp dq dp lv k0 (k9 + 1) cp1 cl1 U1 H → va_S (fun q : Nat => s.heap.size ≤ q) s.heap H locs → lv_has ls 4 [(3, .int (nI (6 * k9))), (2, .ref k0), (1, .ref x), (0, .ref b)] → W p l e room_1 s m #[Value.ref b] below meth c H locs (1000 + 1010 * (k9 + 1) + cp1 + 4 * cl1) (45000 + 8192 * cp1 + 512 * cl1 + U1) (lw_Z below #[Value.ref b] s) (F0 m 1081 ls [])) : W p l e room_1 s m #[Value.ref b] below meth c H locs (1000 + 1010 * k9 + cp + 4 * cl) (45000 + 8192 * cp + 512 * cl + U) (lw_Z below #[Value.ref b] s) (F0 m 880 ls []) := by
  obtain ⟨hP, hD⟩ := hPD
  obtain ⟨hx, hb, hr, hml, hown, hts1, hX, hbl, hlocks, hgv⟩ := id C0
  have hts : ∀ w9 ∈ ws0, w9.before #[Value.ref b] s = true := fun w9 h => hts1 w9 (List.mem_filter.mp h).1
  have hA : ∀ q : Nat, s.heap.size ≤ q → (fun q : Nat => s.heap.size ≤ q) q := fun _ h => h
  have hbA : ¬ (fun q : Nat => s.heap.size ≤ q) b := Nat.not_le.mpr hbl
  have hXN := hXL.1
  have hK3 := hK.sub [0, 1, 2] rfl
  obtain ⟨hm0, hm19, hm20, hm21⟩ := hM
  have hpo := shB_po hB
  have hK512 : k9 + 1 ≤ 512 := r9_k hk9 hL9
  have hwfS := hI.1.1
  have hbdC := hI.1.2.2.1
  have hT0 := hI.1.2.2.2
  have hd9 := hpo.1
  have h200t : ∀ t, bs ≤ t → t ≤ T → FT t ≤ 200 := fun t t1 t2 => Nat.le_trans (hpo.2.1 t T t1 t2 (Nat.le_refl _)) hd9.2.2.2.2
  have h200f : ft ≤ 200 := (by rw [hd9.2.2.2.1]; exact h200t dn hd9.1 hd9.2.1)
  have hrkA : ∀ q, lvF ft st tn q → 0 ≤ (rk q).toInt ∧ (rk q).toInt ≤ 9 := fun q hq => (hI.1.2.1 q (Nat.lt_of_lt_of_le hq.1 (by rw [hd9.2.2.2.1]; exact hpo.2.1 dn T hd9.1 hd9.2.1 (Nat.le_refl _)))).1
  have hwdA : ∀ q, q < ft → 0 ≤ (wd q).toInt ∧ (wd q).toInt ≤ 100 := fun q hq => (hI.1.2.1 q (Nat.lt_of_lt_of_le hq (by rw [hd9.2.2.2.1]; exact hpo.2.1 dn T hd9.1 hd9.2.1 (Nat.le_refl _)))).2
  have hcp5 := INV_cp hI (Nat.le_of_succ_le hK512)
  have hcp1 := hI.2.2.1.2.1
  have hcnt := hI.2.2.2.1
  have hlst := hI.2.2.2.2
  have hlb := mul_514 (a := Sn) (b := C) (r9_s hcnt.2.1 hK512).2.1
  have hftA := bdC_F hbdC
  have hrm := room_c (Sn := Sn) (AD := AD) (C := C) (c := cp) (cl := cl) (U := U) (r9_s hcnt.2.1 hK512).1 hI.2.2.1.2.2.2.2.2 hlst.2.2.2.1 hU
  have hrc : 1000 + 1010 * k9 + cp + 4 * cl ≤ 600000 := (by omega)
  have hefA : ∀ q, lvF ft st tn q → 1 ≤ eO (kd q).toInt (nN (mn q)) := fun q hq => eO_1 (wfS_kn hwfS q hq)
  refine la_22_1 l C0 hk9 hL9 hS hl (rfl) (rfl) ?_
  obtain ⟨hPc, hDc, hFc⟩ := zt_3 hP hD hS hA
  refine zcall (st1 := [.long (-1)]) (va_runV (As := [.int (xs (6 * k9 + 1)), .int (xs (6 * k9 + 2))]) (rest := []) ⟨hx, hb, hml, hown, hts⟩ (k_far_z l dC dI cI cZ cF H.size x sh lw ro bq bp dq dp lv sl (nI bs) ul su (nI dn) fa ft FA L f kd st tn mn cx cy rk wd tw pa pb gb it (xs (6 * k9 + 1)) (xs (6 * k9 + 2)) (h200f) (shB_va hB) (fun ⟨g, e, hg⟩ => nI_bad h200f hbad hg.1 e)) (csV_267 hts rfl rfl ⟨Nat.le_of_ble_eq_true rfl, Nat.le_of_ble_eq_true rfl⟩) (zPV2 (q0 := 0) (ci := 8) hPc hDc hK3 hXN rfl rfl) rfl rfl hl.1 rfl (lv_room (Nat.le_of_ble_eq_true rfl)) dL_law_891 ⟨hrc, hrm⟩) hS hFc hFc rfl (fun t H locs ht hB hk1 hS => ?_)
  obtain ⟨hP1, hD1⟩ := hB
  rw [ht] at hP1
  obtain ⟨hP, hD⟩ := zs_3  hP hD hk1 hFc hP1 hD1
  clear hk1 hPc hDc hFc hP1 hD1 ht
  refine lv_pop2_2 hx hb dL_law_894 rfl ?_
  refine la_22_2 l C0 hk9 hL9 hS hl (rfl) (rfl) ?_
  obtain ⟨hPc, hDc, hFc⟩ := zt_2 hP hD hS hA
  refine zcall (st1 := [.long (-1)]) (va_runV (As := [.int (xs (6 * k9 + 1)), .int (xs (6 * k9 + 2))]) (rest := []) ⟨hx, hb, hml, hown, hts⟩ (k_M_far_x l dC dI cI cZ cF H.size k0 a (upd I0 26 (nI ln)) J0 ft (xs (6 * k9 + 1)) (xs (6 * k9 + 2)) (hm0) (h200f) (hbad)) (csV_268 hts rfl rfl ⟨Nat.le_of_ble_eq_true rfl, Nat.le_of_ble_eq_true rfl⟩) (zPV2 (q0 := 0) (ci := 9) hPc hDc hK3 hXN rfl rfl) rfl rfl hl.1 rfl (lv_room (Nat.le_of_ble_eq_true rfl)) dL_law_906 ⟨hrc, hrm⟩) hS hFc hFc rfl (fun t H locs ht hB hk1 hS => ?_)
  obtain ⟨hP1, hD1⟩ := hB
  rw [ht] at hP1
  obtain ⟨hP, hD⟩ := zs_2  hP hD hk1 hFc hP1 hD1
  clear hk1 hPc hDc hFc hP1 hD1 ht
  refine lv_pop2_2 hx hb dL_law_909 rfl ?_
  refine lv_goto (tgt := 1081) hx hb dL_law_910 rfl ?_
  obtain ⟨hP9, hD9⟩ := And.intro hP hD
  refine W.widen (k := 1000 + 1010 * (k9 + 1) + cp + 4 * cl) (n := 45000 + 8192 * cp + 512 * cl + U) (by first | exact wdK | omega) (by first | exact Nat.le_refl _ | omega) ?_
  exact hnext cp cl U H locs ls (lawI_in L f FA ea nd nt nw ul su mc9 rd rt rw P Q TX TY WX WY AR b1 b2 b3 b4 b5 b6 b7 b8 c1 c2 c3 c4 a1 a2 a3 a4 nv RA WT EX EY GR LV y1 y2 y3 y4 a I0 J0 kd st gb it pa pb rk wd tw tn mn cx cy sa shs wh of9 we la lb lc ld P0 Q0 S0 ox oy mt wi ins T0 fl mk jx jy gr bs dn T ft Sn AD C ln FT cc W9 V VX VY hP9 hD9 (hB) (INV_K hI) ⟨hm0, hm19, hm20, hm21⟩ (by first | exact hU | omega)) hS (lv_sub hl [0, 1, 2, 3] rfl)
set_option maxHeartbeats 4000000 in
set_option maxRecDepth 100000 in
theorem lc_far_z {p : Program} {e : Env} {s : State} {m : MethodId} {below : List Frame} {meth : Method} {c : Code} (l : Launch) {b L9 : Nat} {xs : Nat → Int32} (C0 : lw_At p s m meth c b L9 xs) (dC : Nat → ClassId) (dI : Nat → Nat → Nat) (cI cZ cF cO : ClassId) (e0 mi : Nat) (x sl sh fa lw dr dx dy tg tx ty wy wx wz br bo aa ro za zw zx zy zg bq bp dq dp lv k0 : Nat) (hK : va_K (dC, dI) classes (zTyO cI cZ cF cO) s) (hXL : zXL e0 mi (fun q : Nat => s.heap.size ≤ q) s) (L : List Nat) (f : Nat → va_E) (FA : Nat → Option Nat) (ea : Nat) (nd : Nat) (nt : Nat) (nw : Nat) (ul : Int32) (su : Int32) (mc9 : Int32) (rd : Int32) (rt : Int32) (rw : Int32) (P : Nat → Int32) (Q : Nat → Int32) (TX : Nat → Int32) (TY : Nat → Int32) (WX : Nat → Int32) (WY : Nat → Int32) (AR : Nat → Int32) (b1 : Int32) (b2 : Int32) (b3 : Int32) (b4 : Int32) (b5 : Int32) (b6 : Int32) (b7 : Int32) (b8 : Int32) (c1 : Int32) (c2 : Int32) (c3 : Int32) (c4 : Int32) (a1 : Int32) (a2 : Int32) (a3 : Int32) (a4 : Int32) (nv : Int32) (RA : Nat → Option Nat) (WT : Nat → Int32) (EX : Nat → Int32) (EY : Nat → Int32) (GR : Nat → Int32) (LV : Nat → Int32) (y1 : Int64) (y2 : Int64) (y3 : Int64) (y4 : Int64) (a : Nat → Nat) (I0 : Nat → Int32) (J0 : Nat → Int64) (kd : Nat → Int32) (st : Nat → Int32) (gb : Nat → Int32) (it : Nat → Int32) (pa : Nat → Int32) (pb : Nat → Int32) (rk : Nat → Int32) (wd : Nat → Int32) (tw : Nat → Int32) (tn : Nat → Int32) (mn : Nat → Int32) (cx : Nat → Int32) (cy : Nat → Int32) (sa : Nat → Int32) (shs : Nat → Int32) (wh : Nat → Int32) (of9 : Nat → Int32) (we : Nat → Int32) (la : Nat → Int32) (lb : Nat → Int32) (lc : Nat → Int32) (ld : Nat → Int32) (P0 : Nat → Int32) (Q0 : Nat → Int32) (S0 : Nat → Int32) (ox : Nat → Int32) (oy : Nat → Int32) (mt : Nat → Int32) (wi : Nat → Int32) (ins : Nat → Int32) (T0 : Nat → Int32) (fl : Nat → Int32) (mk : Nat → Int32) (jx : Nat → Int32) (jy : Nat → Int32) (gr : Nat → Int32) (bs : Nat) (dn : Nat) (T : Nat) (ft : Nat) (Sn : Nat) (AD : Nat) (C : Nat) (ln : Nat) (FT : Nat → Nat) (cc : Nat → Nat) (W9 : Nat → Nat) (V : Nat → Nat → Nat → Int32) (VX : Nat → Nat → Int32) (VY : Nat → Nat → Int32) (cp cl U k9 : Nat) (hk9 : 6 * k9 + 6 ≤ L9) (hL9 : L9 ≤ 3072) (f0 : Nat) {H : Heap} {locs : List Loc} {ls : Array Slot} (hPD : zPD (dC, dI) classes (fun q : Nat => s.heap.size ≤ q) (((oc8 x (.ref sh) (.ref lw) (.ref ro) (.ref bq) (.ref bp) (.ref dq) (.ref dp) (.ref lv) (.ref sl) (nI dn) (nI bs) ul su) :: (oc10 sl mc9 (.ref ea) (nI T)) :: (oc7 sh (.ref fa) (nI ft)) :: (oq fa cF 200 FA) :: (oc3 lw (.ref dr) (.ref tg) (.ref wy) (.ref br) (.ref bo) (.ref aa)) :: (oc6 dr (.ref dx) (.ref dy) (nI nd) rd) :: (oa dx cI 40 P) :: (oa dy cI 40 Q) :: (oc6 tg (.ref tx) (.ref ty) (nI nt) rt) :: (oa tx cI 3 TX) :: (oa ty cI 3 TY) :: (oc6 wy (.ref wx) (.ref wz) (nI nw) rw) :: (oa wx cI 2 WX) :: (oa wz cI 2 WY) :: (oc0 br b1 b2 b3 b4) :: (oc0 bo b5 b6 b7 b8) :: (oa aa cI 40 AR) :: (oc5 ro (.ref za) (.ref zw) (.ref zx) (.ref zy) (.ref zg) nv) :: (oq za cF 200 RA) :: (oa zw cI 200 WT) :: (oa zx cI 400 EX) :: (oa zy cI 400 EY) :: (oa zg cI 400 GR) :: (oc0 bq c1 c2 c3 c4) :: (oc0 bp a1 a2 a3 a4) :: (oc2 dq y1 y2) :: (oc2 dp y3 y4) :: (oa lv cZ 200 LV) :: (om k0 a (upd I0 26 (nI ln)) J0) :: (oa (a 1) cI 201 kd) :: (oa (a 5) cI 201 st) :: (oa (a 7) cI 201 gb) :: (oa (a 10) cI 201 it) :: (oa (a 8) cI 201 pa) :: (oa (a 9) cI 201 pb) :: (oa (a 2) cI 201 rk) :: (oa (a 3) cI 201 wd) :: (oa (a 4) cI 201 tw) :: (oa (a 6) cZ 201 tn) :: (oa (a 11) cI 201 mn) :: (oa (a 12) cI 8040 cx) :: (oa (a 13) cI 8040 cy) :: (oa (a 27) cI 516 sa) :: (oa (a 28) cI (4096 * cp) shs) :: (oa (a 16) cI 514 wh) :: (oa (a 17) cI 514 of9) :: (oa (a 18) cI 514 we) :: (oa (a 22) cI (64 * cl) la) :: (oa (a 23) cI (64 * cl) lb) :: (oa (a 24) cI (64 * cl) lc) :: (oa (a 25) cI (64 * cl) ld) :: (oa (a 29) cI 42 P0) :: (oa (a 30) cI 42 Q0) :: (oa (a 32) cI 8 S0) :: (oa (a 33) cI 42 ox) :: (oa (a 34) cI 42 oy) :: (oa (a 37) cZ 201 mt) :: (oa (a 38) cZ 201 wi) :: (oa (a 39) cZ 8040 ins) :: (oa (a 40) cI 6 T0) :: (oa (a 43) cZ 40 fl) :: (oa (a 50) cZ 201 mk) :: (oa (a 51) cI 402 jx) :: (oa (a 52) cI 402 jy) :: (oa (a 53) cI 402 gr) :: []) ++ va_pl L f) H) (hS : va_S (fun q : Nat => s.heap.size ≤ q) s.heap H locs) (hl : lv_has ls 4 [(3, .int (nI (6 * k9))), (2, .ref k0), (1, .ref x), (0, .ref b)]) (hB : shB cI cO L f e0 FA ea bs dn T ft FT V VX VY tn rk wd tw pa pb wh of9 we kd st gb it mn cx cy) (hI : INV k9 Sn AD C cc W9 bs T ft cp ln cl FT V VX VY tn rk wd tw pa pb kd st it mn cx cy sa shs lb lc) (hM : I0 0 = nI ft ∧ I0 19 = nI dn ∧ I0 20 = nI (T - dn) ∧ I0 21 = nI bs) (hU : U ≤ Sn * (28 * (AD + C) + 1000) + 200 * (AD + C)) (hf0 : f0 < ft) (hv1 : xs (6 * k9 + 1) = nI f0) (hbad : ¬ lvF ft st tn f0) (hnext : ∀ (cp1 cl1 U1 : Nat) (H : Heap) (locs : List Loc) (ls : Array Slot), lawI s dC dI cI cZ cF cO e0 mi x sl sh fa lw dr dx dy tg tx ty wy wx wz br bo aa ro za zw zx zy zg bq bp dq dp lv k0 (k9 + 1) cp1 cl1 U1 H → va_S (fun q : Nat => s.heap.size ≤ q) s.heap H locs → lv_has ls 4 [(3, .int (nI (6 * k9))), (2, .ref k0), (1, .ref x), (0, .ref b)] → W p l e room_1 s m #[Value.ref b] below meth c H locs (1000 + 1010 * (k9 + 1) + cp1 + 4 * cl1) (45000 + 8192 * cp1 + 512 * cl1 + U1) (lw_Z below #[Value.ref b] s) (F0 m 1081 ls [])) : W p l e room_1 s m #[Value.ref b] below meth c H locs (1000 + 1010 * k9 + cp + 4 * cl) (45000 + 8192 * cp + 512 * cl + U) (lw_Z below #[Value.ref b] s) (F0 m 880 ls []) := by
  obtain ⟨hP, hD⟩ := hPD
  obtain ⟨hx, hb, hr, hml, hown, hts1, hX, hbl, hlocks, hgv⟩ := id C0
  have hts : ∀ w9 ∈ ws0, w9.before #[Value.ref b] s = true := fun w9 h => hts1 w9 (List.mem_filter.mp h).1
  have hA : ∀ q : Nat, s.heap.size ≤ q → (fun q : Nat => s.heap.size ≤ q) q := fun _ h => h
  have hbA : ¬ (fun q : Nat => s.heap.size ≤ q) b := Nat.not_le.mpr hbl
  have hXN := hXL.1
  have hK3 := hK.sub [0, 1, 2] rfl
  obtain ⟨hm0, hm19, hm20, hm21⟩ := hM
  have hpo := shB_po hB
  have hK512 : k9 + 1 ≤ 512 := r9_k hk9 hL9
  have hwfS := hI.1.1
  have hbdC := hI.1.2.2.1
  have hT0 := hI.1.2.2.2
  have hd9 := hpo.1
  have h200t : ∀ t, bs ≤ t → t ≤ T → FT t ≤ 200 := fun t t1 t2 => Nat.le_trans (hpo.2.1 t T t1 t2 (Nat.le_refl _)) hd9.2.2.2.2
  have h200f : ft ≤ 200 := (by rw [hd9.2.2.2.1]; exact h200t dn hd9.1 hd9.2.1)
  have hrkA : ∀ q, lvF ft st tn q → 0 ≤ (rk q).toInt ∧ (rk q).toInt ≤ 9 := fun q hq => (hI.1.2.1 q (Nat.lt_of_lt_of_le hq.1 (by rw [hd9.2.2.2.1]; exact hpo.2.1 dn T hd9.1 hd9.2.1 (Nat.le_refl _)))).1
  have hwdA : ∀ q, q < ft → 0 ≤ (wd q).toInt ∧ (wd q).toInt ≤ 100 := fun q hq => (hI.1.2.1 q (Nat.lt_of_lt_of_le hq (by rw [hd9.2.2.2.1]; exact hpo.2.1 dn T hd9.1 hd9.2.1 (Nat.le_refl _)))).2
  have hcp5 := INV_cp hI (Nat.le_of_succ_le hK512)
  have hcp1 := hI.2.2.1.2.1
  have hcnt := hI.2.2.2.1
  have hlst := hI.2.2.2.2
  have hlb := mul_514 (a := Sn) (b := C) (r9_s hcnt.2.1 hK512).2.1
  have hftA := bdC_F hbdC
  have hrm := room_c (Sn := Sn) (AD := AD) (C := C) (c := cp) (cl := cl) (U := U) (r9_s hcnt.2.1 hK512).1 hI.2.2.1.2.2.2.2.2 hlst.2.2.2.1 hU
  have hrc : 1000 + 1010 * k9 + cp + 4 * cl ≤ 600000 := (by omega)
  have hefA : ∀ q, lvF ft st tn q → 1 ≤ eO (kd q).toInt (nN (mn q)) := fun q hq => eO_1 (wfS_kn hwfS q hq)
  refine la_22_1 l C0 hk9 hL9 hS hl (hv1) (rfl) ?_
  obtain ⟨hPc, hDc, hFc⟩ := zt_3 hP hD hS hA
  refine zcall (st1 := [.long (-1)]) (va_runV (As := [.int (nI f0), .int (xs (6 * k9 + 2))]) (rest := []) ⟨hx, hb, hml, hown, hts⟩ (k_far_z l dC dI cI cZ cF H.size x sh lw ro bq bp dq dp lv sl (nI bs) ul su (nI dn) fa ft FA L f kd st tn mn cx cy rk wd tw pa pb gb it (nI f0) (xs (6 * k9 + 2)) (h200f) (shB_va hB) (fun ⟨g, e, hg⟩ => hbad (by rw [nI_inj9 (a := f0) (b := g) (by first | with_reducible assumption | omega) (by have := hg.1; omega) e]; exact hg))) (csV_267 hts rfl rfl ⟨Nat.le_of_ble_eq_true rfl, Nat.le_of_ble_eq_true rfl⟩) (zPV2 (q0 := 0) (ci := 8) hPc hDc hK3 hXN rfl rfl) rfl rfl hl.1 rfl (lv_room (Nat.le_of_ble_eq_true rfl)) dL_law_891 ⟨hrc, hrm⟩) hS hFc hFc rfl (fun t H locs ht hB hk1 hS => ?_)
  obtain ⟨hP1, hD1⟩ := hB
  rw [ht] at hP1
  obtain ⟨hP, hD⟩ := zs_3  hP hD hk1 hFc hP1 hD1
  clear hk1 hPc hDc hFc hP1 hD1 ht
  refine lv_pop2_2 hx hb dL_law_894 rfl ?_
  refine la_22_2 l C0 hk9 hL9 hS hl (hv1) (rfl) ?_
  obtain ⟨hPc, hDc, hFc⟩ := zt_4 hP hD hS hA
  refine zcall (st1 := [.long (-1)]) (va_runV (As := [.int (nI f0), .int (xs (6 * k9 + 2))]) (rest := []) ⟨hx, hb, hml, hown, hts⟩ (k_M_far_r l dC dI cI cZ cF H.size k0 a (upd I0 26 (nI ln)) J0 f0 ft (xs (6 * k9 + 2)) st tn (hm0) (h200f) (by first | with_reducible assumption | omega) (fun h => hbad h.1)) (csV_268 hts rfl rfl ⟨Nat.le_of_ble_eq_true rfl, Nat.le_of_ble_eq_true rfl⟩) (zPV2 (q0 := 0) (ci := 9) hPc hDc hK3 hXN rfl rfl) rfl rfl hl.1 rfl (lv_room (Nat.le_of_ble_eq_true rfl)) dL_law_906 ⟨hrc, hrm⟩) hS hFc hFc rfl (fun t H locs ht hB hk1 hS => ?_)
  obtain ⟨hP1, hD1⟩ := hB
  rw [ht] at hP1
  obtain ⟨hP, hD⟩ := zs_4  hP hD hk1 hFc hP1 hD1
  clear hk1 hPc hDc hFc hP1 hD1 ht
  refine lv_pop2_2 hx hb dL_law_909 rfl ?_
  refine lv_goto (tgt := 1081) hx hb dL_law_910 rfl ?_
  obtain ⟨hP9, hD9⟩ := And.intro hP hD
  refine W.widen (k := 1000 + 1010 * (k9 + 1) + cp + 4 * cl) (n := 45000 + 8192 * cp + 512 * cl + U) (by first | exact wdK | omega) (by first | exact Nat.le_refl _ | omega) ?_
  exact hnext cp cl U H locs ls (lawI_in L f FA ea nd nt nw ul su mc9 rd rt rw P Q TX TY WX WY AR b1 b2 b3 b4 b5 b6 b7 b8 c1 c2 c3 c4 a1 a2 a3 a4 nv RA WT EX EY GR LV y1 y2 y3 y4 a I0 J0 kd st gb it pa pb rk wd tw tn mn cx cy sa shs wh of9 we la lb lc ld P0 Q0 S0 ox oy mt wi ins T0 fl mk jx jy gr bs dn T ft Sn AD C ln FT cc W9 V VX VY hP9 hD9 (hB) (INV_K hI) ⟨hm0, hm19, hm20, hm21⟩ (by first | exact hU | omega)) hS (lv_sub hl [0, 1, 2, 3] rfl)
set_option maxHeartbeats 4000000 in
set_option maxRecDepth 100000 in
theorem lc_far_r {p : Program} {e : Env} {s : State} {m : MethodId} {below : List Frame} {meth : Method} {c : Code} (l : Launch) {b L9 : Nat} {xs : Nat → Int32} (C0 : lw_At p s m meth c b L9 xs) (dC : Nat → ClassId) (dI : Nat → Nat → Nat) (cI cZ cF cO : ClassId) (e0 mi : Nat) (x sl sh fa lw dr dx dy tg tx ty wy wx wz br bo aa ro za zw zx zy zg bq bp dq dp lv k0 : Nat) (hK : va_K (dC, dI) classes (zTyO cI cZ cF cO) s) (hXL : zXL e0 mi (fun q : Nat => s.heap.size ≤ q) s) (L : List Nat) (f : Nat → va_E) (FA : Nat → Option Nat) (ea : Nat) (nd : Nat) (nt : Nat) (nw : Nat) (ul : Int32) (su : Int32) (mc9 : Int32) (rd : Int32) (rt : Int32) (rw : Int32) (P : Nat → Int32) (Q : Nat → Int32) (TX : Nat → Int32) (TY : Nat → Int32) (WX : Nat → Int32) (WY : Nat → Int32) (AR : Nat → Int32) (b1 : Int32) (b2 : Int32) (b3 : Int32) (b4 : Int32) (b5 : Int32) (b6 : Int32) (b7 : Int32) (b8 : Int32) (c1 : Int32) (c2 : Int32) (c3 : Int32) (c4 : Int32) (a1 : Int32) (a2 : Int32) (a3 : Int32) (a4 : Int32) (nv : Int32) (RA : Nat → Option Nat) (WT : Nat → Int32) (EX : Nat → Int32) (EY : Nat → Int32) (GR : Nat → Int32) (LV : Nat → Int32) (y1 : Int64) (y2 : Int64) (y3 : Int64) (y4 : Int64) (a : Nat → Nat) (I0 : Nat → Int32) (J0 : Nat → Int64) (kd : Nat → Int32) (st : Nat → Int32) (gb : Nat → Int32) (it : Nat → Int32) (pa : Nat → Int32) (pb : Nat → Int32) (rk : Nat → Int32) (wd : Nat → Int32) (tw : Nat → Int32) (tn : Nat → Int32) (mn : Nat → Int32) (cx : Nat → Int32) (cy : Nat → Int32) (sa : Nat → Int32) (shs : Nat → Int32) (wh : Nat → Int32) (of9 : Nat → Int32) (we : Nat → Int32) (la : Nat → Int32) (lb : Nat → Int32) (lc : Nat → Int32) (ld : Nat → Int32) (P0 : Nat → Int32) (Q0 : Nat → Int32) (S0 : Nat → Int32) (ox : Nat → Int32) (oy : Nat → Int32) (mt : Nat → Int32) (wi : Nat → Int32) (ins : Nat → Int32) (T0 : Nat → Int32) (fl : Nat → Int32) (mk : Nat → Int32) (jx : Nat → Int32) (jy : Nat → Int32) (gr : Nat → Int32) (bs : Nat) (dn : Nat) (T : Nat) (ft : Nat) (Sn : Nat) (AD : Nat) (C : Nat) (ln : Nat) (FT : Nat → Nat) (cc : Nat → Nat) (W9 : Nat → Nat) (V : Nat → Nat → Nat → Int32) (VX : Nat → Nat → Int32) (VY : Nat → Nat → Int32) (cp cl U k9 : Nat) (hk9 : 6 * k9 + 6 ≤ L9) (hL9 : L9 ≤ 3072) (f0 : Nat) {H : Heap} {locs : List Loc} {ls : Array Slot} (hPD : zPD (dC, dI) classes (fun q : Nat => s.heap.size ≤ q) (((oc8 x (.ref sh) (.ref lw) (.ref ro) (.ref bq) (.ref bp) (.ref dq) (.ref dp) (.ref lv) (.ref sl) (nI dn) (nI bs) ul su) :: (oc10 sl mc9 (.ref ea) (nI T)) :: (oc7 sh (.ref fa) (nI ft)) :: (oq fa cF 200 FA) :: (oc3 lw (.ref dr) (.ref tg) (.ref wy) (.ref br) (.ref bo) (.ref aa)) :: (oc6 dr (.ref dx) (.ref dy) (nI nd) rd) :: (oa dx cI 40 P) :: (oa dy cI 40 Q) :: (oc6 tg (.ref tx) (.ref ty) (nI nt) rt) :: (oa tx cI 3 TX) :: (oa ty cI 3 TY) :: (oc6 wy (.ref wx) (.ref wz) (nI nw) rw) :: (oa wx cI 2 WX) :: (oa wz cI 2 WY) :: (oc0 br b1 b2 b3 b4) :: (oc0 bo b5 b6 b7 b8) :: (oa aa cI 40 AR) :: (oc5 ro (.ref za) (.ref zw) (.ref zx) (.ref zy) (.ref zg) nv) :: (oq za cF 200 RA) :: (oa zw cI 200 WT) :: (oa zx cI 400 EX) :: (oa zy cI 400 EY) :: (oa zg cI 400 GR) :: (oc0 bq c1 c2 c3 c4) :: (oc0 bp a1 a2 a3 a4) :: (oc2 dq y1 y2) :: (oc2 dp y3 y4) :: (oa lv cZ 200 LV) :: (om k0 a (upd I0 26 (nI ln)) J0) :: (oa (a 1) cI 201 kd) :: (oa (a 5) cI 201 st) :: (oa (a 7) cI 201 gb) :: (oa (a 10) cI 201 it) :: (oa (a 8) cI 201 pa) :: (oa (a 9) cI 201 pb) :: (oa (a 2) cI 201 rk) :: (oa (a 3) cI 201 wd) :: (oa (a 4) cI 201 tw) :: (oa (a 6) cZ 201 tn) :: (oa (a 11) cI 201 mn) :: (oa (a 12) cI 8040 cx) :: (oa (a 13) cI 8040 cy) :: (oa (a 27) cI 516 sa) :: (oa (a 28) cI (4096 * cp) shs) :: (oa (a 16) cI 514 wh) :: (oa (a 17) cI 514 of9) :: (oa (a 18) cI 514 we) :: (oa (a 22) cI (64 * cl) la) :: (oa (a 23) cI (64 * cl) lb) :: (oa (a 24) cI (64 * cl) lc) :: (oa (a 25) cI (64 * cl) ld) :: (oa (a 29) cI 42 P0) :: (oa (a 30) cI 42 Q0) :: (oa (a 32) cI 8 S0) :: (oa (a 33) cI 42 ox) :: (oa (a 34) cI 42 oy) :: (oa (a 37) cZ 201 mt) :: (oa (a 38) cZ 201 wi) :: (oa (a 39) cZ 8040 ins) :: (oa (a 40) cI 6 T0) :: (oa (a 43) cZ 40 fl) :: (oa (a 50) cZ 201 mk) :: (oa (a 51) cI 402 jx) :: (oa (a 52) cI 402 jy) :: (oa (a 53) cI 402 gr) :: []) ++ va_pl L f) H) (hS : va_S (fun q : Nat => s.heap.size ≤ q) s.heap H locs) (hl : lv_has ls 4 [(3, .int (nI (6 * k9))), (2, .ref k0), (1, .ref x), (0, .ref b)]) (hB : shB cI cO L f e0 FA ea bs dn T ft FT V VX VY tn rk wd tw pa pb wh of9 we kd st gb it mn cx cy) (hI : INV k9 Sn AD C cc W9 bs T ft cp ln cl FT V VX VY tn rk wd tw pa pb kd st it mn cx cy sa shs lb lc) (hM : I0 0 = nI ft ∧ I0 19 = nI dn ∧ I0 20 = nI (T - dn) ∧ I0 21 = nI bs) (hU : U ≤ Sn * (28 * (AD + C) + 1000) + 200 * (AD + C)) (hf0 : f0 < ft) (hv1 : xs (6 * k9 + 1) = nI f0) (hlv : lvF ft st tn f0) (hbad : ¬ (0 ≤ (xs (6 * k9 + 2)).toInt ∧ (xs (6 * k9 + 2)).toInt ≤ 1)) (hnext : ∀ (cp1 cl1 U1 : Nat) (H : Heap) (locs : List Loc) (ls : Array Slot), lawI s dC dI cI cZ cF cO e0 mi x sl sh fa lw dr dx dy tg tx ty wy wx wz br bo aa ro za zw zx zy zg bq bp dq dp lv k0 (k9 + 1) cp1 cl1 U1 H → va_S (fun q : Nat => s.heap.size ≤ q) s.heap H locs → lv_has ls 4 [(3, .int (nI (6 * k9))), (2, .ref k0), (1, .ref x), (0, .ref b)] → W p l e room_1 s m #[Value.ref b] below meth c H locs (1000 + 1010 * (k9 + 1) + cp1 + 4 * cl1) (45000 + 8192 * cp1 + 512 * cl1 + U1) (lw_Z below #[Value.ref b] s) (F0 m 1081 ls [])) : W p l e room_1 s m #[Value.ref b] below meth c H locs (1000 + 1010 * k9 + cp + 4 * cl) (45000 + 8192 * cp + 512 * cl + U) (lw_Z below #[Value.ref b] s) (F0 m 880 ls []) := by
  obtain ⟨hP, hD⟩ := hPD
  obtain ⟨hx, hb, hr, hml, hown, hts1, hX, hbl, hlocks, hgv⟩ := id C0
  have hts : ∀ w9 ∈ ws0, w9.before #[Value.ref b] s = true := fun w9 h => hts1 w9 (List.mem_filter.mp h).1
  have hA : ∀ q : Nat, s.heap.size ≤ q → (fun q : Nat => s.heap.size ≤ q) q := fun _ h => h
  have hbA : ¬ (fun q : Nat => s.heap.size ≤ q) b := Nat.not_le.mpr hbl
  have hXN := hXL.1
  have hK3 := hK.sub [0, 1, 2] rfl
  obtain ⟨hm0, hm19, hm20, hm21⟩ := hM
  have hpo := shB_po hB
  have hK512 : k9 + 1 ≤ 512 := r9_k hk9 hL9
  have hwfS := hI.1.1
  have hbdC := hI.1.2.2.1
  have hT0 := hI.1.2.2.2
  have hd9 := hpo.1
  have h200t : ∀ t, bs ≤ t → t ≤ T → FT t ≤ 200 := fun t t1 t2 => Nat.le_trans (hpo.2.1 t T t1 t2 (Nat.le_refl _)) hd9.2.2.2.2
  have h200f : ft ≤ 200 := (by rw [hd9.2.2.2.1]; exact h200t dn hd9.1 hd9.2.1)
  have hrkA : ∀ q, lvF ft st tn q → 0 ≤ (rk q).toInt ∧ (rk q).toInt ≤ 9 := fun q hq => (hI.1.2.1 q (Nat.lt_of_lt_of_le hq.1 (by rw [hd9.2.2.2.1]; exact hpo.2.1 dn T hd9.1 hd9.2.1 (Nat.le_refl _)))).1
  have hwdA : ∀ q, q < ft → 0 ≤ (wd q).toInt ∧ (wd q).toInt ≤ 100 := fun q hq => (hI.1.2.1 q (Nat.lt_of_lt_of_le hq (by rw [hd9.2.2.2.1]; exact hpo.2.1 dn T hd9.1 hd9.2.1 (Nat.le_refl _)))).2
  have hcp5 := INV_cp hI (Nat.le_of_succ_le hK512)
  have hcp1 := hI.2.2.1.2.1
  have hcnt := hI.2.2.2.1
  have hlst := hI.2.2.2.2
  have hlb := mul_514 (a := Sn) (b := C) (r9_s hcnt.2.1 hK512).2.1
  have hftA := bdC_F hbdC
  have hrm := room_c (Sn := Sn) (AD := AD) (C := C) (c := cp) (cl := cl) (U := U) (r9_s hcnt.2.1 hK512).1 hI.2.2.1.2.2.2.2.2 hlst.2.2.2.1 hU
  have hrc : 1000 + 1010 * k9 + cp + 4 * cl ≤ 600000 := (by omega)
  have hefA : ∀ q, lvF ft st tn q → 1 ≤ eO (kd q).toInt (nN (mn q)) := fun q hq => eO_1 (wfS_kn hwfS q hq)
  refine la_22_1 l C0 hk9 hL9 hS hl (hv1) (rfl) ?_
  obtain ⟨hPc, hDc, hFc⟩ := zt_19 hP hD hS hA
  refine zcalle (va_runV (As := [.int (nI f0), .int (xs (6 * k9 + 2))]) (rest := []) ⟨hx, hb, hml, hown, hts⟩ (k_far_a l dC dI cI cZ cF H.size cO e0 mi x sh lw ro bq bp dq dp lv sl (nI bs) ul su ea mc9 fa FA bs dn T ft FT V VX VY tn rk wd tw pa pb wh of9 we kd st gb it mn cx cy L f f0 y1 y2 y3 y4 (xs (6 * k9 + 2)) (hB) (hf0) (hlv.2.2) (hlv.2.1)) (csV_267 hts rfl rfl ⟨Nat.le_of_ble_eq_true rfl, Nat.le_of_ble_eq_true rfl⟩) (zPVL (q0 := 0) (ci := 8) hPc hDc hK hXL hS hFc rfl rfl) rfl rfl hl.1 rfl (lv_room (Nat.le_of_ble_eq_true rfl)) dL_law_891 ⟨hrc, hrm⟩) hS hFc hFc (fun v9 t H locs ht hB hk1 hS => ?_)
  obtain ⟨q_1, q_2, q_3, q_4, q_5, rfl, hP1, hD1⟩ := hB
  refine W.eq (g2 := F0 m 894 ls [.long q_1]) rfl ?_
  rw [ht] at hP1
  obtain ⟨hP, hD⟩ := zs_19 (u25 := (oc2 dq q_2 q_3)) (u26 := (oc2 dp q_4 q_5)) hP hD hk1 hFc hP1 hD1
  clear hk1 hPc hDc hFc hP1 hD1 ht
  refine lv_pop2_2 hx hb dL_law_894 rfl ?_
  refine la_22_2 l C0 hk9 hL9 hS hl (hv1) (rfl) ?_
  obtain ⟨hPc, hDc, hFc⟩ := zt_4 hP hD hS hA
  refine zcall (st1 := [.long (-1)]) (va_runV (As := [.int (nI f0), .int (xs (6 * k9 + 2))]) (rest := []) ⟨hx, hb, hml, hown, hts⟩ (k_M_far_r l dC dI cI cZ cF H.size k0 a (upd I0 26 (nI ln)) J0 f0 ft (xs (6 * k9 + 2)) st tn (hm0) (h200f) (by first | with_reducible assumption | omega) (fun h => hbad h.2)) (csV_268 hts rfl rfl ⟨Nat.le_of_ble_eq_true rfl, Nat.le_of_ble_eq_true rfl⟩) (zPV2 (q0 := 0) (ci := 9) hPc hDc hK3 hXN rfl rfl) rfl rfl hl.1 rfl (lv_room (Nat.le_of_ble_eq_true rfl)) dL_law_906 ⟨hrc, hrm⟩) hS hFc hFc rfl (fun t H locs ht hB hk1 hS => ?_)
  obtain ⟨hP1, hD1⟩ := hB
  rw [ht] at hP1
  obtain ⟨hP, hD⟩ := zs_4  hP hD hk1 hFc hP1 hD1
  clear hk1 hPc hDc hFc hP1 hD1 ht
  refine lv_pop2_2 hx hb dL_law_909 rfl ?_
  refine lv_goto (tgt := 1081) hx hb dL_law_910 rfl ?_
  obtain ⟨hP9, hD9⟩ := And.intro hP hD
  refine W.widen (k := 1000 + 1010 * (k9 + 1) + cp + 4 * cl) (n := 45000 + 8192 * cp + 512 * cl + U) (by first | exact wdK | omega) (by first | exact Nat.le_refl _ | omega) ?_
  exact hnext cp cl U H locs ls (lawI_in L f FA ea nd nt nw ul su mc9 rd rt rw P Q TX TY WX WY AR b1 b2 b3 b4 b5 b6 b7 b8 c1 c2 c3 c4 a1 a2 a3 a4 nv RA WT EX EY GR LV q_2 q_3 q_4 q_5 a I0 J0 kd st gb it pa pb rk wd tw tn mn cx cy sa shs wh of9 we la lb lc ld P0 Q0 S0 ox oy mt wi ins T0 fl mk jx jy gr bs dn T ft Sn AD C ln FT cc W9 V VX VY hP9 hD9 (hB) (INV_K hI) ⟨hm0, hm19, hm20, hm21⟩ (by first | exact hU | omega)) hS (lv_sub hl [0, 1, 2, 3] rfl)
set_option maxHeartbeats 4000000 in
set_option maxRecDepth 100000 in
theorem lc_far_s {p : Program} {e : Env} {s : State} {m : MethodId} {below : List Frame} {meth : Method} {c : Code} (l : Launch) {b L9 : Nat} {xs : Nat → Int32} (C0 : lw_At p s m meth c b L9 xs) (dC : Nat → ClassId) (dI : Nat → Nat → Nat) (cI cZ cF cO : ClassId) (e0 mi : Nat) (x sl sh fa lw dr dx dy tg tx ty wy wx wz br bo aa ro za zw zx zy zg bq bp dq dp lv k0 : Nat) (hK : va_K (dC, dI) classes (zTyO cI cZ cF cO) s) (hXL : zXL e0 mi (fun q : Nat => s.heap.size ≤ q) s) (L : List Nat) (f : Nat → va_E) (FA : Nat → Option Nat) (ea : Nat) (nd : Nat) (nt : Nat) (nw : Nat) (ul : Int32) (su : Int32) (mc9 : Int32) (rd : Int32) (rt : Int32) (rw : Int32) (P : Nat → Int32) (Q : Nat → Int32) (TX : Nat → Int32) (TY : Nat → Int32) (WX : Nat → Int32) (WY : Nat → Int32) (AR : Nat → Int32) (b1 : Int32) (b2 : Int32) (b3 : Int32) (b4 : Int32) (b5 : Int32) (b6 : Int32) (b7 : Int32) (b8 : Int32) (c1 : Int32) (c2 : Int32) (c3 : Int32) (c4 : Int32) (a1 : Int32) (a2 : Int32) (a3 : Int32) (a4 : Int32) (nv : Int32) (RA : Nat → Option Nat) (WT : Nat → Int32) (EX : Nat → Int32) (EY : Nat → Int32) (GR : Nat → Int32) (LV : Nat → Int32) (y1 : Int64) (y2 : Int64) (y3 : Int64) (y4 : Int64) (a : Nat → Nat) (I0 : Nat → Int32) (J0 : Nat → Int64) (kd : Nat → Int32) (st : Nat → Int32) (gb : Nat → Int32) (it : Nat → Int32) (pa : Nat → Int32) (pb : Nat → Int32) (rk : Nat → Int32) (wd : Nat → Int32) (tw : Nat → Int32) (tn : Nat → Int32) (mn : Nat → Int32) (cx : Nat → Int32) (cy : Nat → Int32) (sa : Nat → Int32) (shs : Nat → Int32) (wh : Nat → Int32) (of9 : Nat → Int32) (we : Nat → Int32) (la : Nat → Int32) (lb : Nat → Int32) (lc : Nat → Int32) (ld : Nat → Int32) (P0 : Nat → Int32) (Q0 : Nat → Int32) (S0 : Nat → Int32) (ox : Nat → Int32) (oy : Nat → Int32) (mt : Nat → Int32) (wi : Nat → Int32) (ins : Nat → Int32) (T0 : Nat → Int32) (fl : Nat → Int32) (mk : Nat → Int32) (jx : Nat → Int32) (jy : Nat → Int32) (gr : Nat → Int32) (bs : Nat) (dn : Nat) (T : Nat) (ft : Nat) (Sn : Nat) (AD : Nat) (C : Nat) (ln : Nat) (FT : Nat → Nat) (cc : Nat → Nat) (W9 : Nat → Nat) (V : Nat → Nat → Nat → Int32) (VX : Nat → Nat → Int32) (VY : Nat → Nat → Int32) (cp cl U k9 : Nat) (hk9 : 6 * k9 + 6 ≤ L9) (hL9 : L9 ≤ 3072) (f0 : Nat) {H : Heap} {locs : List Loc} {ls : Array Slot} (hPD : zPD (dC, dI) classes (fun q : Nat => s.heap.size ≤ q) (((oc8 x (.ref sh) (.ref lw) (.ref ro) (.ref bq) (.ref bp) (.ref dq) (.ref dp) (.ref lv) (.ref sl) (nI dn) (nI bs) ul su) :: (oc10 sl mc9 (.ref ea) (nI T)) :: (oc7 sh (.ref fa) (nI ft)) :: (oq fa cF 200 FA) :: (oc3 lw (.ref dr) (.ref tg) (.ref wy) (.ref br) (.ref bo) (.ref aa)) :: (oc6 dr (.ref dx) (.ref dy) (nI nd) rd) :: (oa dx cI 40 P) :: (oa dy cI 40 Q) :: (oc6 tg (.ref tx) (.ref ty) (nI nt) rt) :: (oa tx cI 3 TX) :: (oa ty cI 3 TY) :: (oc6 wy (.ref wx) (.ref wz) (nI nw) rw) :: (oa wx cI 2 WX) :: (oa wz cI 2 WY) :: (oc0 br b1 b2 b3 b4) :: (oc0 bo b5 b6 b7 b8) :: (oa aa cI 40 AR) :: (oc5 ro (.ref za) (.ref zw) (.ref zx) (.ref zy) (.ref zg) nv) :: (oq za cF 200 RA) :: (oa zw cI 200 WT) :: (oa zx cI 400 EX) :: (oa zy cI 400 EY) :: (oa zg cI 400 GR) :: (oc0 bq c1 c2 c3 c4) :: (oc0 bp a1 a2 a3 a4) :: (oc2 dq y1 y2) :: (oc2 dp y3 y4) :: (oa lv cZ 200 LV) :: (om k0 a (upd I0 26 (nI ln)) J0) :: (oa (a 1) cI 201 kd) :: (oa (a 5) cI 201 st) :: (oa (a 7) cI 201 gb) :: (oa (a 10) cI 201 it) :: (oa (a 8) cI 201 pa) :: (oa (a 9) cI 201 pb) :: (oa (a 2) cI 201 rk) :: (oa (a 3) cI 201 wd) :: (oa (a 4) cI 201 tw) :: (oa (a 6) cZ 201 tn) :: (oa (a 11) cI 201 mn) :: (oa (a 12) cI 8040 cx) :: (oa (a 13) cI 8040 cy) :: (oa (a 27) cI 516 sa) :: (oa (a 28) cI (4096 * cp) shs) :: (oa (a 16) cI 514 wh) :: (oa (a 17) cI 514 of9) :: (oa (a 18) cI 514 we) :: (oa (a 22) cI (64 * cl) la) :: (oa (a 23) cI (64 * cl) lb) :: (oa (a 24) cI (64 * cl) lc) :: (oa (a 25) cI (64 * cl) ld) :: (oa (a 29) cI 42 P0) :: (oa (a 30) cI 42 Q0) :: (oa (a 32) cI 8 S0) :: (oa (a 33) cI 42 ox) :: (oa (a 34) cI 42 oy) :: (oa (a 37) cZ 201 mt) :: (oa (a 38) cZ 201 wi) :: (oa (a 39) cZ 8040 ins) :: (oa (a 40) cI 6 T0) :: (oa (a 43) cZ 40 fl) :: (oa (a 50) cZ 201 mk) :: (oa (a 51) cI 402 jx) :: (oa (a 52) cI 402 jy) :: (oa (a 53) cI 402 gr) :: []) ++ va_pl L f) H) (hS : va_S (fun q : Nat => s.heap.size ≤ q) s.heap H locs) (hl : lv_has ls 4 [(3, .int (nI (6 * k9))), (2, .ref k0), (1, .ref x), (0, .ref b)]) (hB : shB cI cO L f e0 FA ea bs dn T ft FT V VX VY tn rk wd tw pa pb wh of9 we kd st gb it mn cx cy) (hI : INV k9 Sn AD C cc W9 bs T ft cp ln cl FT V VX VY tn rk wd tw pa pb kd st it mn cx cy sa shs lb lc) (hM : I0 0 = nI ft ∧ I0 19 = nI dn ∧ I0 20 = nI (T - dn) ∧ I0 21 = nI bs) (hU : U ≤ Sn * (28 * (AD + C) + 1000) + 200 * (AD + C)) (hf0 : f0 < ft) (hv1 : xs (6 * k9 + 1) = nI f0) (hlv : lvF ft st tn f0) (hgd : 0 ≤ (xs (6 * k9 + 2)).toInt ∧ (xs (6 * k9 + 2)).toInt ≤ 1) (hnext : ∀ (cp1 cl1 U1 : Nat) (H : Heap) (locs : List Loc) (ls : Array Slot), lawI s dC dI cI cZ cF cO e0 mi x sl sh fa lw dr dx dy tg tx ty wy wx wz br bo aa ro za zw zx zy zg bq bp dq dp lv k0 (k9 + 1) cp1 cl1 U1 H → va_S (fun q : Nat => s.heap.size ≤ q) s.heap H locs → lv_has ls 4 [(3, .int (nI (6 * k9))), (2, .ref k0), (1, .ref x), (0, .ref b)] → W p l e room_1 s m #[Value.ref b] below meth c H locs (1000 + 1010 * (k9 + 1) + cp1 + 4 * cl1) (45000 + 8192 * cp1 + 512 * cl1 + U1) (lw_Z below #[Value.ref b] s) (F0 m 1081 ls [])) : W p l e room_1 s m #[Value.ref b] below meth c H locs (1000 + 1010 * k9 + cp + 4 * cl) (45000 + 8192 * cp + 512 * cl + U) (lw_Z below #[Value.ref b] s) (F0 m 880 ls []) := by
  obtain ⟨hP, hD⟩ := hPD
  obtain ⟨hx, hb, hr, hml, hown, hts1, hX, hbl, hlocks, hgv⟩ := id C0
  have hts : ∀ w9 ∈ ws0, w9.before #[Value.ref b] s = true := fun w9 h => hts1 w9 (List.mem_filter.mp h).1
  have hA : ∀ q : Nat, s.heap.size ≤ q → (fun q : Nat => s.heap.size ≤ q) q := fun _ h => h
  have hbA : ¬ (fun q : Nat => s.heap.size ≤ q) b := Nat.not_le.mpr hbl
  have hXN := hXL.1
  have hK3 := hK.sub [0, 1, 2] rfl
  obtain ⟨hm0, hm19, hm20, hm21⟩ := hM
  have hpo := shB_po hB
  have hK512 : k9 + 1 ≤ 512 := r9_k hk9 hL9
  have hwfS := hI.1.1
  have hbdC := hI.1.2.2.1
  have hT0 := hI.1.2.2.2
  have hd9 := hpo.1
  have h200t : ∀ t, bs ≤ t → t ≤ T → FT t ≤ 200 := fun t t1 t2 => Nat.le_trans (hpo.2.1 t T t1 t2 (Nat.le_refl _)) hd9.2.2.2.2
  have h200f : ft ≤ 200 := (by rw [hd9.2.2.2.1]; exact h200t dn hd9.1 hd9.2.1)
  have hrkA : ∀ q, lvF ft st tn q → 0 ≤ (rk q).toInt ∧ (rk q).toInt ≤ 9 := fun q hq => (hI.1.2.1 q (Nat.lt_of_lt_of_le hq.1 (by rw [hd9.2.2.2.1]; exact hpo.2.1 dn T hd9.1 hd9.2.1 (Nat.le_refl _)))).1
  have hwdA : ∀ q, q < ft → 0 ≤ (wd q).toInt ∧ (wd q).toInt ≤ 100 := fun q hq => (hI.1.2.1 q (Nat.lt_of_lt_of_le hq (by rw [hd9.2.2.2.1]; exact hpo.2.1 dn T hd9.1 hd9.2.1 (Nat.le_refl _)))).2
  have hcp5 := INV_cp hI (Nat.le_of_succ_le hK512)
  have hcp1 := hI.2.2.1.2.1
  have hcnt := hI.2.2.2.1
  have hlst := hI.2.2.2.2
  have hlb := mul_514 (a := Sn) (b := C) (r9_s hcnt.2.1 hK512).2.1
  have hftA := bdC_F hbdC
  have hrm := room_c (Sn := Sn) (AD := AD) (C := C) (c := cp) (cl := cl) (U := U) (r9_s hcnt.2.1 hK512).1 hI.2.2.1.2.2.2.2.2 hlst.2.2.2.1 hU
  have hrc : 1000 + 1010 * k9 + cp + 4 * cl ≤ 600000 := (by omega)
  have hefA : ∀ q, lvF ft st tn q → 1 ≤ eO (kd q).toInt (nN (mn q)) := fun q hq => eO_1 (wfS_kn hwfS q hq)
  refine la_22_1 l C0 hk9 hL9 hS hl (hv1) (rfl) ?_
  obtain ⟨hPc, hDc, hFc⟩ := zt_19 hP hD hS hA
  refine zcalle (va_runV (As := [.int (nI f0), .int (xs (6 * k9 + 2))]) (rest := []) ⟨hx, hb, hml, hown, hts⟩ (k_far_a l dC dI cI cZ cF H.size cO e0 mi x sh lw ro bq bp dq dp lv sl (nI bs) ul su ea mc9 fa FA bs dn T ft FT V VX VY tn rk wd tw pa pb wh of9 we kd st gb it mn cx cy L f f0 y1 y2 y3 y4 (xs (6 * k9 + 2)) (hB) (hf0) (hlv.2.2) (hlv.2.1)) (csV_267 hts rfl rfl ⟨Nat.le_of_ble_eq_true rfl, Nat.le_of_ble_eq_true rfl⟩) (zPVL (q0 := 0) (ci := 8) hPc hDc hK hXL hS hFc rfl rfl) rfl rfl hl.1 rfl (lv_room (Nat.le_of_ble_eq_true rfl)) dL_law_891 ⟨hrc, hrm⟩) hS hFc hFc (fun v9 t H locs ht hB hk1 hS => ?_)
  obtain ⟨q_1, q_2, q_3, q_4, q_5, rfl, hP1, hD1⟩ := hB
  refine W.eq (g2 := F0 m 894 ls [.long q_1]) rfl ?_
  rw [ht] at hP1
  obtain ⟨hP, hD⟩ := zs_19 (u25 := (oc2 dq q_2 q_3)) (u26 := (oc2 dp q_4 q_5)) hP hD hk1 hFc hP1 hD1
  clear hk1 hPc hDc hFc hP1 hD1 ht
  refine lv_pop2_2 hx hb dL_law_894 rfl ?_
  refine la_22_2 l C0 hk9 hL9 hS hl (hv1) (rfl) ?_
  obtain ⟨hPc, hDc, hFc⟩ := zo_sub (wc := [_, _, _, _, _, _, _, _, _, _, _, _]) hP hD hS hA [28, 30, 38, 29, 39, 40, 41, 53, 47, 48, 49, 50] (by decide +kernel) rfl
  refine zcalle (va_runV (As := [.int (nI f0), .int (xs (6 * k9 + 2))]) (rest := []) ⟨hx, hb, hml, hown, hts⟩ (k_M_far_s l dC dI cI cZ cF H.size k0 a (upd I0 26 (nI ln)) J0 f0 ft ln cl (xs (6 * k9 + 2)) st tn kd mn cx cy S0 la lb lc ld (hm0) (h200f) (wfS_wf hwfS) (rfl) (by first | with_reducible assumption | omega) (by first | with_reducible assumption | omega) (by first | with_reducible assumption | omega) (by first | with_reducible assumption | omega) (hlv) (hgd) (hefA f0 hlv) (hlst.2.2.2.2)) (csV_268 hts rfl rfl ⟨Nat.le_of_ble_eq_true rfl, Nat.le_of_ble_eq_true rfl⟩) (zPV2 (q0 := 0) (ci := 9) hPc hDc hK3 hXN rfl rfl) rfl rfl hl.1 rfl (lv_room (Nat.le_of_ble_eq_true rfl)) dL_law_906 ⟨hrc, hrm⟩) hS hFc hFc (fun v9 t H locs ht hB hk1 hS => ?_)
  obtain ⟨zr, u9, d8, S1, rfl, hP1, hD1⟩ := hB
  refine W.eq (g2 := F0 m 909 ls [.long zr]) rfl ?_
  rw [ht] at hP1
  obtain ⟨hP, hD⟩ := znQ (W2 := (_ :: _ :: _ :: _ :: _ :: _ :: _ :: _ :: _ :: _ :: _ :: _ :: _ :: _ :: _ :: _ :: _ :: _ :: _ :: _ :: _ :: _ :: _ :: _ :: _ :: _ :: _ :: _ :: (om k0 a (upd I0 26 (nI ln)) (vp_updL (vp_updL J0 48 u9) 49 d8)) :: _ :: _ :: _ :: _ :: _ :: _ :: _ :: _ :: _ :: _ :: _ :: _ :: _ :: _ :: _ :: _ :: _ :: _ :: _ :: _ :: _ :: _ :: _ :: _ :: (oa (a 32) cI 8 S1) :: _ :: _ :: _ :: _ :: _ :: _ :: _ :: _ :: _ :: _ :: _ :: [])) hP hD hk1 hFc hP1 hD1 zl_309 zl_310 zl_310 zl_309 (by decide +kernel) rfl rfl rfl rfl rfl
  clear hk1 hPc hDc hFc hP1 hD1 ht
  refine lv_pop2_2 hx hb dL_law_909 rfl ?_
  refine lv_goto (tgt := 1081) hx hb dL_law_910 rfl ?_
  obtain ⟨hP9, hD9⟩ := And.intro hP hD
  refine W.widen (k := 1000 + 1010 * (k9 + 1) + cp + 4 * cl) (n := 45000 + 8192 * cp + 512 * cl + U) (by first | exact wdK | omega) (by first | exact Nat.le_refl _ | omega) ?_
  have e26 : upd (upd I0 26 (nI ln)) 26 (nI ln) = (upd I0 26 (nI ln)) := up_same rfl
  exact hnext cp cl U H locs ls (lawI_in L f FA ea nd nt nw ul su mc9 rd rt rw P Q TX TY WX WY AR b1 b2 b3 b4 b5 b6 b7 b8 c1 c2 c3 c4 a1 a2 a3 a4 nv RA WT EX EY GR LV q_2 q_3 q_4 q_5 a (upd I0 26 (nI ln)) (vp_updL (vp_updL J0 48 u9) 49 d8) kd st gb it pa pb rk wd tw tn mn cx cy sa shs wh of9 we la lb lc ld P0 Q0 S1 ox oy mt wi ins T0 fl mk jx jy gr bs dn T ft Sn AD C ln FT cc W9 V VX VY (by rw [e26]; exact hP9) (by rw [e26]; exact hD9) (hB) (INV_K hI) ⟨hm0, hm19, hm20, hm21⟩ (by first | exact hU | omega)) hS (lv_sub hl [0, 1, 2, 3] rfl)
set_option maxHeartbeats 4000000 in
set_option maxRecDepth 100000 in
theorem lc_size_x {p : Program} {e : Env} {s : State} {m : MethodId} {below : List Frame} {meth : Method} {c : Code} (l : Launch) {b L9 : Nat} {xs : Nat → Int32} (C0 : lw_At p s m meth c b L9 xs) (dC : Nat → ClassId) (dI : Nat → Nat → Nat) (cI cZ cF cO : ClassId) (e0 mi : Nat) (x sl sh fa lw dr dx dy tg tx ty wy wx wz br bo aa ro za zw zx zy zg bq bp dq dp lv k0 : Nat) (hK : va_K (dC, dI) classes (zTyO cI cZ cF cO) s) (hXL : zXL e0 mi (fun q : Nat => s.heap.size ≤ q) s) (L : List Nat) (f : Nat → va_E) (FA : Nat → Option Nat) (ea : Nat) (nd : Nat) (nt : Nat) (nw : Nat) (ul : Int32) (su : Int32) (mc9 : Int32) (rd : Int32) (rt : Int32) (rw : Int32) (P : Nat → Int32) (Q : Nat → Int32) (TX : Nat → Int32) (TY : Nat → Int32) (WX : Nat → Int32) (WY : Nat → Int32) (AR : Nat → Int32) (b1 : Int32) (b2 : Int32) (b3 : Int32) (b4 : Int32) (b5 : Int32) (b6 : Int32) (b7 : Int32) (b8 : Int32) (c1 : Int32) (c2 : Int32) (c3 : Int32) (c4 : Int32) (a1 : Int32) (a2 : Int32) (a3 : Int32) (a4 : Int32) (nv : Int32) (RA : Nat → Option Nat) (WT : Nat → Int32) (EX : Nat → Int32) (EY : Nat → Int32) (GR : Nat → Int32) (LV : Nat → Int32) (y1 : Int64) (y2 : Int64) (y3 : Int64) (y4 : Int64) (a : Nat → Nat) (I0 : Nat → Int32) (J0 : Nat → Int64) (kd : Nat → Int32) (st : Nat → Int32) (gb : Nat → Int32) (it : Nat → Int32) (pa : Nat → Int32) (pb : Nat → Int32) (rk : Nat → Int32) (wd : Nat → Int32) (tw : Nat → Int32) (tn : Nat → Int32) (mn : Nat → Int32) (cx : Nat → Int32) (cy : Nat → Int32) (sa : Nat → Int32) (shs : Nat → Int32) (wh : Nat → Int32) (of9 : Nat → Int32) (we : Nat → Int32) (la : Nat → Int32) (lb : Nat → Int32) (lc : Nat → Int32) (ld : Nat → Int32) (P0 : Nat → Int32) (Q0 : Nat → Int32) (S0 : Nat → Int32) (ox : Nat → Int32) (oy : Nat → Int32) (mt : Nat → Int32) (wi : Nat → Int32) (ins : Nat → Int32) (T0 : Nat → Int32) (fl : Nat → Int32) (mk : Nat → Int32) (jx : Nat → Int32) (jy : Nat → Int32) (gr : Nat → Int32) (bs : Nat) (dn : Nat) (T : Nat) (ft : Nat) (Sn : Nat) (AD : Nat) (C : Nat) (ln : Nat) (FT : Nat → Nat) (cc : Nat → Nat) (W9 : Nat → Nat) (V : Nat → Nat → Nat → Int32) (VX : Nat → Nat → Int32) (VY : Nat → Nat → Int32) (cp cl U k9 : Nat) (hk9 : 6 * k9 + 6 ≤ L9) (hL9 : L9 ≤ 3072) {H : Heap} {locs : List Loc} {ls : Array Slot} (hPD : zPD (dC, dI) classes (fun q : Nat => s.heap.size ≤ q) (((oc8 x (.ref sh) (.ref lw) (.ref ro) (.ref bq) (.ref bp) (.ref dq) (.ref dp) (.ref lv) (.ref sl) (nI dn) (nI bs) ul su) :: (oc10 sl mc9 (.ref ea) (nI T)) :: (oc7 sh (.ref fa) (nI ft)) :: (oq fa cF 200 FA) :: (oc3 lw (.ref dr) (.ref tg) (.ref wy) (.ref br) (.ref bo) (.ref aa)) :: (oc6 dr (.ref dx) (.ref dy) (nI nd) rd) :: (oa dx cI 40 P) :: (oa dy cI 40 Q) :: (oc6 tg (.ref tx) (.ref ty) (nI nt) rt) :: (oa tx cI 3 TX) :: (oa ty cI 3 TY) :: (oc6 wy (.ref wx) (.ref wz) (nI nw) rw) :: (oa wx cI 2 WX) :: (oa wz cI 2 WY) :: (oc0 br b1 b2 b3 b4) :: (oc0 bo b5 b6 b7 b8) :: (oa aa cI 40 AR) :: (oc5 ro (.ref za) (.ref zw) (.ref zx) (.ref zy) (.ref zg) nv) :: (oq za cF 200 RA) :: (oa zw cI 200 WT) :: (oa zx cI 400 EX) :: (oa zy cI 400 EY) :: (oa zg cI 400 GR) :: (oc0 bq c1 c2 c3 c4) :: (oc0 bp a1 a2 a3 a4) :: (oc2 dq y1 y2) :: (oc2 dp y3 y4) :: (oa lv cZ 200 LV) :: (om k0 a (upd I0 26 (nI ln)) J0) :: (oa (a 1) cI 201 kd) :: (oa (a 5) cI 201 st) :: (oa (a 7) cI 201 gb) :: (oa (a 10) cI 201 it) :: (oa (a 8) cI 201 pa) :: (oa (a 9) cI 201 pb) :: (oa (a 2) cI 201 rk) :: (oa (a 3) cI 201 wd) :: (oa (a 4) cI 201 tw) :: (oa (a 6) cZ 201 tn) :: (oa (a 11) cI 201 mn) :: (oa (a 12) cI 8040 cx) :: (oa (a 13) cI 8040 cy) :: (oa (a 27) cI 516 sa) :: (oa (a 28) cI (4096 * cp) shs) :: (oa (a 16) cI 514 wh) :: (oa (a 17) cI 514 of9) :: (oa (a 18) cI 514 we) :: (oa (a 22) cI (64 * cl) la) :: (oa (a 23) cI (64 * cl) lb) :: (oa (a 24) cI (64 * cl) lc) :: (oa (a 25) cI (64 * cl) ld) :: (oa (a 29) cI 42 P0) :: (oa (a 30) cI 42 Q0) :: (oa (a 32) cI 8 S0) :: (oa (a 33) cI 42 ox) :: (oa (a 34) cI 42 oy) :: (oa (a 37) cZ 201 mt) :: (oa (a 38) cZ 201 wi) :: (oa (a 39) cZ 8040 ins) :: (oa (a 40) cI 6 T0) :: (oa (a 43) cZ 40 fl) :: (oa (a 50) cZ 201 mk) :: (oa (a 51) cI 402 jx) :: (oa (a 52) cI 402 jy) :: (oa (a 53) cI 402 gr) :: []) ++ va_pl L f) H) (hS : va_S (fun q : Nat => s.heap.size ≤ q) s.heap H locs) (hl : lv_has ls 4 [(3, .int (nI (6 * k9))), (2, .ref k0), (1, .ref x), (0, .ref b)]) (hB : shB cI cO L f e0 FA ea bs dn T ft FT V VX VY tn rk wd tw pa pb wh of9 we kd st gb it mn cx cy) (hI : INV k9 Sn AD C cc W9 bs T ft cp ln cl FT V VX VY tn rk wd tw pa pb kd st it mn cx cy sa shs lb lc) (hM : I0 0 = nI ft ∧ I0 19 = nI dn ∧ I0 20 = nI (T - dn) ∧ I0 21 = nI bs) (hU : U ≤ Sn * (28 * (AD + C) + 1000) + 200 * (AD + C)) (hbad : ¬ (0 ≤ (xs (6 * k9 + 1)).toInt ∧ (xs (6 * k9 + 1)).toInt < ((ft : Nat) : Int))) (hnext : ∀ (cp1 cl1 U1 : Nat) (H : Heap) (locs : List Loc) (ls : Array Slot), lawI s dC dI cI cZ cF cO e0 mi x sl sh fa lw dr dx dy tg tx ty wy wx wz br bo aa ro za zw zx zy zg bq bp dq dp lv k0 (k9 + 1) cp1 cl1 U1 H → va_S (fun q : Nat => s.heap.size ≤ q) s.heap H locs → lv_has ls 4 [(3, .int (nI (6 * k9))), (2, .ref k0), (1, .ref x), (0, .ref b)] → W p l e room_1 s m #[Value.ref b] below meth c H locs (1000 + 1010 * (k9 + 1) + cp1 + 4 * cl1) (45000 + 8192 * cp1 + 512 * cl1 + U1) (lw_Z below #[Value.ref b] s) (F0 m 1081 ls [])) : W p l e room_1 s m #[Value.ref b] below meth c H locs (1000 + 1010 * k9 + cp + 4 * cl) (45000 + 8192 * cp + 512 * cl + U) (lw_Z below #[Value.ref b] s) (F0 m 913 ls []) := by
  obtain ⟨hP, hD⟩ := hPD
  obtain ⟨hx, hb, hr, hml, hown, hts1, hX, hbl, hlocks, hgv⟩ := id C0
  have hts : ∀ w9 ∈ ws0, w9.before #[Value.ref b] s = true := fun w9 h => hts1 w9 (List.mem_filter.mp h).1
  have hA : ∀ q : Nat, s.heap.size ≤ q → (fun q : Nat => s.heap.size ≤ q) q := fun _ h => h
  have hbA : ¬ (fun q : Nat => s.heap.size ≤ q) b := Nat.not_le.mpr hbl
  have hXN := hXL.1
  have hK3 := hK.sub [0, 1, 2] rfl
  obtain ⟨hm0, hm19, hm20, hm21⟩ := hM
  have hpo := shB_po hB
  have hK512 : k9 + 1 ≤ 512 := r9_k hk9 hL9
  have hwfS := hI.1.1
  have hbdC := hI.1.2.2.1
  have hT0 := hI.1.2.2.2
  have hd9 := hpo.1
  have h200t : ∀ t, bs ≤ t → t ≤ T → FT t ≤ 200 := fun t t1 t2 => Nat.le_trans (hpo.2.1 t T t1 t2 (Nat.le_refl _)) hd9.2.2.2.2
  have h200f : ft ≤ 200 := (by rw [hd9.2.2.2.1]; exact h200t dn hd9.1 hd9.2.1)
  have hrkA : ∀ q, lvF ft st tn q → 0 ≤ (rk q).toInt ∧ (rk q).toInt ≤ 9 := fun q hq => (hI.1.2.1 q (Nat.lt_of_lt_of_le hq.1 (by rw [hd9.2.2.2.1]; exact hpo.2.1 dn T hd9.1 hd9.2.1 (Nat.le_refl _)))).1
  have hwdA : ∀ q, q < ft → 0 ≤ (wd q).toInt ∧ (wd q).toInt ≤ 100 := fun q hq => (hI.1.2.1 q (Nat.lt_of_lt_of_le hq (by rw [hd9.2.2.2.1]; exact hpo.2.1 dn T hd9.1 hd9.2.1 (Nat.le_refl _)))).2
  have hcp5 := INV_cp hI (Nat.le_of_succ_le hK512)
  have hcp1 := hI.2.2.1.2.1
  have hcnt := hI.2.2.2.1
  have hlst := hI.2.2.2.2
  have hlb := mul_514 (a := Sn) (b := C) (r9_s hcnt.2.1 hK512).2.1
  have hftA := bdC_F hbdC
  have hrm := room_c (Sn := Sn) (AD := AD) (C := C) (c := cp) (cl := cl) (U := U) (r9_s hcnt.2.1 hK512).1 hI.2.2.1.2.2.2.2.2 hlst.2.2.2.1 hU
  have hrc : 1000 + 1010 * k9 + cp + 4 * cl ≤ 600000 := (by omega)
  have hefA : ∀ q, lvF ft st tn q → 1 ≤ eO (kd q).toInt (nN (mn q)) := fun q hq => eO_1 (wfS_kn hwfS q hq)
  refine la_23_1 l C0 hk9 hL9 hS hl (rfl) ?_
  obtain ⟨hPc, hDc, hFc⟩ := zt_3 hP hD hS hA
  refine zcall (st1 := [.long (-1)]) (va_runV (As := [.int (xs (6 * k9 + 1))]) (rest := []) ⟨hx, hb, hml, hown, hts⟩ (k_size_z l dC dI cI cZ cF H.size x sh lw ro bq bp dq dp lv sl (nI bs) ul su (nI dn) fa ft FA L f kd st tn mn cx cy rk wd tw pa pb gb it (xs (6 * k9 + 1)) (h200f) (shB_va hB) (fun ⟨g, e, hg⟩ => nI_bad h200f hbad hg.1 e)) (csV_269 hts rfl rfl ⟨Nat.le_of_ble_eq_true rfl, Nat.le_of_ble_eq_true rfl⟩) (zPV2 (q0 := 0) (ci := 8) hPc hDc hK3 hXN rfl rfl) rfl rfl hl.1 rfl (lv_room (Nat.le_of_ble_eq_true rfl)) dL_law_919 ⟨hrc, hrm⟩) hS hFc hFc rfl (fun t H locs ht hB hk1 hS => ?_)
  obtain ⟨hP1, hD1⟩ := hB
  rw [ht] at hP1
  obtain ⟨hP, hD⟩ := zs_3  hP hD hk1 hFc hP1 hD1
  clear hk1 hPc hDc hFc hP1 hD1 ht
  refine lv_pop2_2 hx hb dL_law_922 rfl ?_
  refine la_23_2 l C0 hk9 hL9 hS hl (rfl) ?_
  obtain ⟨hPc, hDc, hFc⟩ := zt_2 hP hD hS hA
  refine zcall (st1 := [.long (-1)]) (va_runV (As := [.int (xs (6 * k9 + 1))]) (rest := []) ⟨hx, hb, hml, hown, hts⟩ (k_M_size_x l dC dI cI cZ cF H.size k0 a (upd I0 26 (nI ln)) J0 ft (xs (6 * k9 + 1)) (hm0) (h200f) (hbad)) (csV_270 hts rfl rfl ⟨Nat.le_of_ble_eq_true rfl, Nat.le_of_ble_eq_true rfl⟩) (zPV2 (q0 := 0) (ci := 9) hPc hDc hK3 hXN rfl rfl) rfl rfl hl.1 rfl (lv_room (Nat.le_of_ble_eq_true rfl)) dL_law_929 ⟨hrc, hrm⟩) hS hFc hFc rfl (fun t H locs ht hB hk1 hS => ?_)
  obtain ⟨hP1, hD1⟩ := hB
  rw [ht] at hP1
  obtain ⟨hP, hD⟩ := zs_2  hP hD hk1 hFc hP1 hD1
  clear hk1 hPc hDc hFc hP1 hD1 ht
  refine lv_pop2_2 hx hb dL_law_932 rfl ?_
  refine lv_goto (tgt := 1081) hx hb dL_law_933 rfl ?_
  obtain ⟨hP9, hD9⟩ := And.intro hP hD
  refine W.widen (k := 1000 + 1010 * (k9 + 1) + cp + 4 * cl) (n := 45000 + 8192 * cp + 512 * cl + U) (by first | exact wdK | omega) (by first | exact Nat.le_refl _ | omega) ?_
  exact hnext cp cl U H locs ls (lawI_in L f FA ea nd nt nw ul su mc9 rd rt rw P Q TX TY WX WY AR b1 b2 b3 b4 b5 b6 b7 b8 c1 c2 c3 c4 a1 a2 a3 a4 nv RA WT EX EY GR LV y1 y2 y3 y4 a I0 J0 kd st gb it pa pb rk wd tw tn mn cx cy sa shs wh of9 we la lb lc ld P0 Q0 S0 ox oy mt wi ins T0 fl mk jx jy gr bs dn T ft Sn AD C ln FT cc W9 V VX VY hP9 hD9 (hB) (INV_K hI) ⟨hm0, hm19, hm20, hm21⟩ (by first | exact hU | omega)) hS (lv_sub hl [0, 1, 2, 3] rfl)
end
section
set_option maxHeartbeats 4000000 in
set_option maxRecDepth 100000 in
theorem lc_size_r {p : Program} {e : Env} {s : State} {m : MethodId} {below : List Frame} {meth : Method} {c : Code} (l : Launch) {b L9 : Nat} {xs : Nat → Int32} (C0 : lw_At p s m meth c b L9 xs) (dC : Nat → ClassId) (dI : Nat → Nat → Nat) (cI cZ cF cO : ClassId) (e0 mi : Nat) (x sl sh fa lw dr dx dy tg tx ty wy wx wz br bo aa ro za zw zx zy zg bq bp dq dp lv k0 : Nat) (hK : va_K (dC, dI) classes (zTyO cI cZ cF cO) s) (hXL : zXL e0 mi (fun q : Nat => s.heap.size ≤ q) s) (L : List Nat) (f : Nat → va_E) (FA : Nat → Option Nat) (ea : Nat) (nd : Nat) (nt : Nat) (nw : Nat) (ul : Int32) (su : Int32) (mc9 : Int32) (rd : Int32) (rt : Int32) (rw : Int32) (P : Nat → Int32) (Q : Nat → Int32) (TX : Nat → Int32) (TY : Nat → Int32) (WX : Nat → Int32) (WY : Nat → Int32) (AR : Nat → Int32) (b1 : Int32) (b2 : Int32) (b3 : Int32) (b4 : Int32) (b5 : Int32) (b6 : Int32) (b7 : Int32) (b8 : Int32) (c1 : Int32) (c2 : Int32) (c3 : Int32) (c4 : Int32) (a1 : Int32) (a2 : Int32) (a3 : Int32) (a4 : Int32) (nv : Int32) (RA : Nat → Option Nat) (WT : Nat → Int32) (EX : Nat → Int32) (EY : Nat → Int32) (GR : Nat → Int32) (LV : Nat → Int32) (y1 : Int64) (y2 : Int64) (y3 : Int64) (y4 : Int64) (a : Nat → Nat) (I0 : Nat → Int32) (J0 : Nat → Int64) (kd : Nat → Int32) (st : Nat → Int32) (gb : Nat → Int32) (it : Nat → Int32) (pa : Nat → Int32) (pb : Nat → Int32) (rk : Nat → Int32) (wd : Nat → Int32) (tw : Nat → Int32) (tn : Nat → Int32) (mn : Nat → Int32) (cx : Nat → Int32) (cy : Nat → Int32) (sa : Nat → Int32) (shs : Nat → Int32) (wh : Nat → Int32) (of9 : Nat → Int32) (we : Nat → Int32) (la : Nat → Int32) (lb : Nat → Int32) (lc : Nat → Int32) (ld : Nat → Int32) (P0 : Nat → Int32) (Q0 : Nat → Int32) (S0 : Nat → Int32) (ox : Nat → Int32) (oy : Nat → Int32) (mt : Nat → Int32) (wi : Nat → Int32) (ins : Nat → Int32) (T0 : Nat → Int32) (fl : Nat → Int32) (mk : Nat → Int32) (jx : Nat → Int32) (jy : Nat → Int32) (gr : Nat → Int32) (bs : Nat) (dn : Nat) (T : Nat) (ft : Nat) (Sn : Nat) (AD : Nat) (C : Nat) (ln : Nat) (FT : Nat → Nat) (cc : Nat → Nat) (W9 : Nat → Nat) (V : Nat → Nat → Nat → Int32) (VX : Nat → Nat → Int32) (VY : Nat → Nat → Int32) (cp cl U k9 : Nat) (hk9 : 6 * k9 + 6 ≤ L9) (hL9 : L9 ≤ 3072) (f0 : Nat) {H : Heap} {locs : List Loc} {ls : Array Slot} (hPD : zPD (dC, dI) classes (fun q : Nat => s.heap.size ≤ q) (((oc8 x (.ref sh) (.ref lw) (.ref ro) (.ref bq) (.ref bp) (.ref dq) (.ref dp) (.ref lv) (.ref sl) (nI dn) (nI bs) ul su) :: (oc10 sl mc9 (.ref ea) (nI T)) :: (oc7 sh (.ref fa) (nI ft)) :: (oq fa cF 200 FA) :: (oc3 lw (.ref dr) (.ref tg) (.ref wy) (.ref br) (.ref bo) (.ref aa)) :: (oc6 dr (.ref dx) (.ref dy) (nI nd) rd) :: (oa dx cI 40 P) :: (oa dy cI 40 Q) :: (oc6 tg (.ref tx) (.ref ty) (nI nt) rt) :: (oa tx cI 3 TX) :: (oa ty cI 3 TY) :: (oc6 wy (.ref wx) (.ref wz) (nI nw) rw) :: (oa wx cI 2 WX) :: (oa wz cI 2 WY) :: (oc0 br b1 b2 b3 b4) :: (oc0 bo b5 b6 b7 b8) :: (oa aa cI 40 AR) :: (oc5 ro (.ref za) (.ref zw) (.ref zx) (.ref zy) (.ref zg) nv) :: (oq za cF 200 RA) :: (oa zw cI 200 WT) :: (oa zx cI 400 EX) :: (oa zy cI 400 EY) :: (oa zg cI 400 GR) :: (oc0 bq c1 c2 c3 c4) :: (oc0 bp a1 a2 a3 a4) :: (oc2 dq y1 y2) :: (oc2 dp y3 y4) :: (oa lv cZ 200 LV) :: (om k0 a (upd I0 26 (nI ln)) J0) :: (oa (a 1) cI 201 kd) :: (oa (a 5) cI 201 st) :: (oa (a 7) cI 201 gb) :: (oa (a 10) cI 201 it) :: (oa (a 8) cI 201 pa) :: (oa (a 9) cI 201 pb) :: (oa (a 2) cI 201 rk) :: (oa (a 3) cI 201 wd) :: (oa (a 4) cI 201 tw) :: (oa (a 6) cZ 201 tn) :: (oa (a 11) cI 201 mn) :: (oa (a 12) cI 8040 cx) :: (oa (a 13) cI 8040 cy) :: (oa (a 27) cI 516 sa) :: (oa (a 28) cI (4096 * cp) shs) :: (oa (a 16) cI 514 wh) :: (oa (a 17) cI 514 of9) :: (oa (a 18) cI 514 we) :: (oa (a 22) cI (64 * cl) la) :: (oa (a 23) cI (64 * cl) lb) :: (oa (a 24) cI (64 * cl) lc) :: (oa (a 25) cI (64 * cl) ld) :: (oa (a 29) cI 42 P0) :: (oa (a 30) cI 42 Q0) :: (oa (a 32) cI 8 S0) :: (oa (a 33) cI 42 ox) :: (oa (a 34) cI 42 oy) :: (oa (a 37) cZ 201 mt) :: (oa (a 38) cZ 201 wi) :: (oa (a 39) cZ 8040 ins) :: (oa (a 40) cI 6 T0) :: (oa (a 43) cZ 40 fl) :: (oa (a 50) cZ 201 mk) :: (oa (a 51) cI 402 jx) :: (oa (a 52) cI 402 jy) :: (oa (a 53) cI 402 gr) :: []) ++ va_pl L f) H) (hS : va_S (fun q : Nat => s.heap.size ≤ q) s.heap H locs) (hl : lv_has ls 4 [(3, .int (nI (6 * k9))), (2, .ref k0), (1, .ref x), (0, .ref b)]) (hB : shB cI cO L f e0 FA ea bs dn T ft FT V VX VY tn rk wd tw pa pb wh of9 we kd st gb it mn cx cy) (hI : INV k9 Sn AD C cc W9 bs T ft cp ln cl FT V VX VY tn rk wd tw pa pb kd st it mn cx cy sa shs lb lc) (hM : I0 0 = nI ft ∧ I0 19 = nI dn ∧ I0 20 = nI (T - dn) ∧ I0 21 = nI bs) (hU : U ≤ Sn * (28 * (AD + C) + 1000) + 200 * (AD + C)) (hf0 : f0 < ft) (hv1 : xs (6 * k9 + 1) = nI f0) (hbad : ¬ lvF ft st tn f0) (hnext : ∀ (cp1 cl1 U1 : Nat) (H : Heap) (locs : List Loc) (ls : Array Slot), lawI s dC dI cI cZ cF cO e0 mi x sl sh fa lw dr dx dy tg tx ty wy wx wz br bo aa ro za zw zx zy zg bq bp dq dp lv k0 (k9 + 1) cp1 cl1 U1 H → va_S (fun q : Nat => s.heap.size ≤ q) s.heap H locs → lv_has ls 4 [(3, .int (nI (6 * k9))), (2, .ref k0), (1, .ref x), (0, .ref b)] → W p l e room_1 s m #[Value.ref b] below meth c H locs (1000 + 1010 * (k9 + 1) + cp1 + 4 * cl1) (45000 + 8192 * cp1 + 512 * cl1 + U1) (lw_Z below #[Value.ref b] s) (F0 m 1081 ls [])) : W p l e room_1 s m #[Value.ref b] below meth c H locs (1000 + 1010 * k9 + cp + 4 * cl) (45000 + 8192 * cp + 512 * cl + U) (lw_Z below #[Value.ref b] s) (F0 m 913 ls []) := by
  obtain ⟨hP, hD⟩ := hPD
  obtain ⟨hx, hb, hr, hml, hown, hts1, hX, hbl, hlocks, hgv⟩ := id C0
  have hts : ∀ w9 ∈ ws0, w9.before #[Value.ref b] s = true := fun w9 h => hts1 w9 (List.mem_filter.mp h).1
  have hA : ∀ q : Nat, s.heap.size ≤ q → (fun q : Nat => s.heap.size ≤ q) q := fun _ h => h
  have hbA : ¬ (fun q : Nat => s.heap.size ≤ q) b := Nat.not_le.mpr hbl
  have hXN := hXL.1
  have hK3 := hK.sub [0, 1, 2] rfl
  obtain ⟨hm0, hm19, hm20, hm21⟩ := hM
  have hpo := shB_po hB
  have hK512 : k9 + 1 ≤ 512 := r9_k hk9 hL9
  have hwfS := hI.1.1
  have hbdC := hI.1.2.2.1
  have hT0 := hI.1.2.2.2
  have hd9 := hpo.1
  have h200t : ∀ t, bs ≤ t → t ≤ T → FT t ≤ 200 := fun t t1 t2 => Nat.le_trans (hpo.2.1 t T t1 t2 (Nat.le_refl _)) hd9.2.2.2.2
  have h200f : ft ≤ 200 := (by rw [hd9.2.2.2.1]; exact h200t dn hd9.1 hd9.2.1)
  have hrkA : ∀ q, lvF ft st tn q → 0 ≤ (rk q).toInt ∧ (rk q).toInt ≤ 9 := fun q hq => (hI.1.2.1 q (Nat.lt_of_lt_of_le hq.1 (by rw [hd9.2.2.2.1]; exact hpo.2.1 dn T hd9.1 hd9.2.1 (Nat.le_refl _)))).1
  have hwdA : ∀ q, q < ft → 0 ≤ (wd q).toInt ∧ (wd q).toInt ≤ 100 := fun q hq => (hI.1.2.1 q (Nat.lt_of_lt_of_le hq (by rw [hd9.2.2.2.1]; exact hpo.2.1 dn T hd9.1 hd9.2.1 (Nat.le_refl _)))).2
  have hcp5 := INV_cp hI (Nat.le_of_succ_le hK512)
  have hcp1 := hI.2.2.1.2.1
  have hcnt := hI.2.2.2.1
  have hlst := hI.2.2.2.2
  have hlb := mul_514 (a := Sn) (b := C) (r9_s hcnt.2.1 hK512).2.1
  have hftA := bdC_F hbdC
  have hrm := room_c (Sn := Sn) (AD := AD) (C := C) (c := cp) (cl := cl) (U := U) (r9_s hcnt.2.1 hK512).1 hI.2.2.1.2.2.2.2.2 hlst.2.2.2.1 hU
  have hrc : 1000 + 1010 * k9 + cp + 4 * cl ≤ 600000 := (by omega)
  have hefA : ∀ q, lvF ft st tn q → 1 ≤ eO (kd q).toInt (nN (mn q)) := fun q hq => eO_1 (wfS_kn hwfS q hq)
  refine la_23_1 l C0 hk9 hL9 hS hl (hv1) ?_
  obtain ⟨hPc, hDc, hFc⟩ := zt_3 hP hD hS hA
  refine zcall (st1 := [.long (-1)]) (va_runV (As := [.int (nI f0)]) (rest := []) ⟨hx, hb, hml, hown, hts⟩ (k_size_z l dC dI cI cZ cF H.size x sh lw ro bq bp dq dp lv sl (nI bs) ul su (nI dn) fa ft FA L f kd st tn mn cx cy rk wd tw pa pb gb it (nI f0) (h200f) (shB_va hB) (fun ⟨g, e, hg⟩ => hbad (by rw [nI_inj9 (a := f0) (b := g) (by first | with_reducible assumption | omega) (by have := hg.1; omega) e]; exact hg))) (csV_269 hts rfl rfl ⟨Nat.le_of_ble_eq_true rfl, Nat.le_of_ble_eq_true rfl⟩) (zPV2 (q0 := 0) (ci := 8) hPc hDc hK3 hXN rfl rfl) rfl rfl hl.1 rfl (lv_room (Nat.le_of_ble_eq_true rfl)) dL_law_919 ⟨hrc, hrm⟩) hS hFc hFc rfl (fun t H locs ht hB hk1 hS => ?_)
  obtain ⟨hP1, hD1⟩ := hB
  rw [ht] at hP1
  obtain ⟨hP, hD⟩ := zs_3  hP hD hk1 hFc hP1 hD1
  clear hk1 hPc hDc hFc hP1 hD1 ht
  refine lv_pop2_2 hx hb dL_law_922 rfl ?_
  refine la_23_2 l C0 hk9 hL9 hS hl (hv1) ?_
  obtain ⟨hPc, hDc, hFc⟩ := zt_4 hP hD hS hA
  refine zcall (st1 := [.long (-1)]) (va_runV (As := [.int (nI f0)]) (rest := []) ⟨hx, hb, hml, hown, hts⟩ (k_M_size_r l dC dI cI cZ cF H.size k0 a (upd I0 26 (nI ln)) J0 f0 ft st tn (hm0) (h200f) (by first | with_reducible assumption | omega) (hbad)) (csV_270 hts rfl rfl ⟨Nat.le_of_ble_eq_true rfl, Nat.le_of_ble_eq_true rfl⟩) (zPV2 (q0 := 0) (ci := 9) hPc hDc hK3 hXN rfl rfl) rfl rfl hl.1 rfl (lv_room (Nat.le_of_ble_eq_true rfl)) dL_law_929 ⟨hrc, hrm⟩) hS hFc hFc rfl (fun t H locs ht hB hk1 hS => ?_)
  obtain ⟨hP1, hD1⟩ := hB
  rw [ht] at hP1
  obtain ⟨hP, hD⟩ := zs_4  hP hD hk1 hFc hP1 hD1
  clear hk1 hPc hDc hFc hP1 hD1 ht
  refine lv_pop2_2 hx hb dL_law_932 rfl ?_
  refine lv_goto (tgt := 1081) hx hb dL_law_933 rfl ?_
  obtain ⟨hP9, hD9⟩ := And.intro hP hD
  refine W.widen (k := 1000 + 1010 * (k9 + 1) + cp + 4 * cl) (n := 45000 + 8192 * cp + 512 * cl + U) (by first | exact wdK | omega) (by first | exact Nat.le_refl _ | omega) ?_
  exact hnext cp cl U H locs ls (lawI_in L f FA ea nd nt nw ul su mc9 rd rt rw P Q TX TY WX WY AR b1 b2 b3 b4 b5 b6 b7 b8 c1 c2 c3 c4 a1 a2 a3 a4 nv RA WT EX EY GR LV y1 y2 y3 y4 a I0 J0 kd st gb it pa pb rk wd tw tn mn cx cy sa shs wh of9 we la lb lc ld P0 Q0 S0 ox oy mt wi ins T0 fl mk jx jy gr bs dn T ft Sn AD C ln FT cc W9 V VX VY hP9 hD9 (hB) (INV_K hI) ⟨hm0, hm19, hm20, hm21⟩ (by first | exact hU | omega)) hS (lv_sub hl [0, 1, 2, 3] rfl)
set_option maxHeartbeats 4000000 in
set_option maxRecDepth 100000 in
theorem lc_size_p {p : Program} {e : Env} {s : State} {m : MethodId} {below : List Frame} {meth : Method} {c : Code} (l : Launch) {b L9 : Nat} {xs : Nat → Int32} (C0 : lw_At p s m meth c b L9 xs) (dC : Nat → ClassId) (dI : Nat → Nat → Nat) (cI cZ cF cO : ClassId) (e0 mi : Nat) (x sl sh fa lw dr dx dy tg tx ty wy wx wz br bo aa ro za zw zx zy zg bq bp dq dp lv k0 : Nat) (hK : va_K (dC, dI) classes (zTyO cI cZ cF cO) s) (hXL : zXL e0 mi (fun q : Nat => s.heap.size ≤ q) s) (L : List Nat) (f : Nat → va_E) (FA : Nat → Option Nat) (ea : Nat) (nd : Nat) (nt : Nat) (nw : Nat) (ul : Int32) (su : Int32) (mc9 : Int32) (rd : Int32) (rt : Int32) (rw : Int32) (P : Nat → Int32) (Q : Nat → Int32) (TX : Nat → Int32) (TY : Nat → Int32) (WX : Nat → Int32) (WY : Nat → Int32) (AR : Nat → Int32) (b1 : Int32) (b2 : Int32) (b3 : Int32) (b4 : Int32) (b5 : Int32) (b6 : Int32) (b7 : Int32) (b8 : Int32) (c1 : Int32) (c2 : Int32) (c3 : Int32) (c4 : Int32) (a1 : Int32) (a2 : Int32) (a3 : Int32) (a4 : Int32) (nv : Int32) (RA : Nat → Option Nat) (WT : Nat → Int32) (EX : Nat → Int32) (EY : Nat → Int32) (GR : Nat → Int32) (LV : Nat → Int32) (y1 : Int64) (y2 : Int64) (y3 : Int64) (y4 : Int64) (a : Nat → Nat) (I0 : Nat → Int32) (J0 : Nat → Int64) (kd : Nat → Int32) (st : Nat → Int32) (gb : Nat → Int32) (it : Nat → Int32) (pa : Nat → Int32) (pb : Nat → Int32) (rk : Nat → Int32) (wd : Nat → Int32) (tw : Nat → Int32) (tn : Nat → Int32) (mn : Nat → Int32) (cx : Nat → Int32) (cy : Nat → Int32) (sa : Nat → Int32) (shs : Nat → Int32) (wh : Nat → Int32) (of9 : Nat → Int32) (we : Nat → Int32) (la : Nat → Int32) (lb : Nat → Int32) (lc : Nat → Int32) (ld : Nat → Int32) (P0 : Nat → Int32) (Q0 : Nat → Int32) (S0 : Nat → Int32) (ox : Nat → Int32) (oy : Nat → Int32) (mt : Nat → Int32) (wi : Nat → Int32) (ins : Nat → Int32) (T0 : Nat → Int32) (fl : Nat → Int32) (mk : Nat → Int32) (jx : Nat → Int32) (jy : Nat → Int32) (gr : Nat → Int32) (bs : Nat) (dn : Nat) (T : Nat) (ft : Nat) (Sn : Nat) (AD : Nat) (C : Nat) (ln : Nat) (FT : Nat → Nat) (cc : Nat → Nat) (W9 : Nat → Nat) (V : Nat → Nat → Nat → Int32) (VX : Nat → Nat → Int32) (VY : Nat → Nat → Int32) (cp cl U k9 : Nat) (hk9 : 6 * k9 + 6 ≤ L9) (hL9 : L9 ≤ 3072) (f0 : Nat) {H : Heap} {locs : List Loc} {ls : Array Slot} (hPD : zPD (dC, dI) classes (fun q : Nat => s.heap.size ≤ q) (((oc8 x (.ref sh) (.ref lw) (.ref ro) (.ref bq) (.ref bp) (.ref dq) (.ref dp) (.ref lv) (.ref sl) (nI dn) (nI bs) ul su) :: (oc10 sl mc9 (.ref ea) (nI T)) :: (oc7 sh (.ref fa) (nI ft)) :: (oq fa cF 200 FA) :: (oc3 lw (.ref dr) (.ref tg) (.ref wy) (.ref br) (.ref bo) (.ref aa)) :: (oc6 dr (.ref dx) (.ref dy) (nI nd) rd) :: (oa dx cI 40 P) :: (oa dy cI 40 Q) :: (oc6 tg (.ref tx) (.ref ty) (nI nt) rt) :: (oa tx cI 3 TX) :: (oa ty cI 3 TY) :: (oc6 wy (.ref wx) (.ref wz) (nI nw) rw) :: (oa wx cI 2 WX) :: (oa wz cI 2 WY) :: (oc0 br b1 b2 b3 b4) :: (oc0 bo b5 b6 b7 b8) :: (oa aa cI 40 AR) :: (oc5 ro (.ref za) (.ref zw) (.ref zx) (.ref zy) (.ref zg) nv) :: (oq za cF 200 RA) :: (oa zw cI 200 WT) :: (oa zx cI 400 EX) :: (oa zy cI 400 EY) :: (oa zg cI 400 GR) :: (oc0 bq c1 c2 c3 c4) :: (oc0 bp a1 a2 a3 a4) :: (oc2 dq y1 y2) :: (oc2 dp y3 y4) :: (oa lv cZ 200 LV) :: (om k0 a (upd I0 26 (nI ln)) J0) :: (oa (a 1) cI 201 kd) :: (oa (a 5) cI 201 st) :: (oa (a 7) cI 201 gb) :: (oa (a 10) cI 201 it) :: (oa (a 8) cI 201 pa) :: (oa (a 9) cI 201 pb) :: (oa (a 2) cI 201 rk) :: (oa (a 3) cI 201 wd) :: (oa (a 4) cI 201 tw) :: (oa (a 6) cZ 201 tn) :: (oa (a 11) cI 201 mn) :: (oa (a 12) cI 8040 cx) :: (oa (a 13) cI 8040 cy) :: (oa (a 27) cI 516 sa) :: (oa (a 28) cI (4096 * cp) shs) :: (oa (a 16) cI 514 wh) :: (oa (a 17) cI 514 of9) :: (oa (a 18) cI 514 we) :: (oa (a 22) cI (64 * cl) la) :: (oa (a 23) cI (64 * cl) lb) :: (oa (a 24) cI (64 * cl) lc) :: (oa (a 25) cI (64 * cl) ld) :: (oa (a 29) cI 42 P0) :: (oa (a 30) cI 42 Q0) :: (oa (a 32) cI 8 S0) :: (oa (a 33) cI 42 ox) :: (oa (a 34) cI 42 oy) :: (oa (a 37) cZ 201 mt) :: (oa (a 38) cZ 201 wi) :: (oa (a 39) cZ 8040 ins) :: (oa (a 40) cI 6 T0) :: (oa (a 43) cZ 40 fl) :: (oa (a 50) cZ 201 mk) :: (oa (a 51) cI 402 jx) :: (oa (a 52) cI 402 jy) :: (oa (a 53) cI 402 gr) :: []) ++ va_pl L f) H) (hS : va_S (fun q : Nat => s.heap.size ≤ q) s.heap H locs) (hl : lv_has ls 4 [(3, .int (nI (6 * k9))), (2, .ref k0), (1, .ref x), (0, .ref b)]) (hB : shB cI cO L f e0 FA ea bs dn T ft FT V VX VY tn rk wd tw pa pb wh of9 we kd st gb it mn cx cy) (hI : INV k9 Sn AD C cc W9 bs T ft cp ln cl FT V VX VY tn rk wd tw pa pb kd st it mn cx cy sa shs lb lc) (hM : I0 0 = nI ft ∧ I0 19 = nI dn ∧ I0 20 = nI (T - dn) ∧ I0 21 = nI bs) (hU : U ≤ Sn * (28 * (AD + C) + 1000) + 200 * (AD + C)) (hf0 : f0 < ft) (hv1 : xs (6 * k9 + 1) = nI f0) (hlv : lvF ft st tn f0) (hk : (kd f0).toInt = 0) (hnext : ∀ (cp1 cl1 U1 : Nat) (H : Heap) (locs : List Loc) (ls : Array Slot), lawI s dC dI cI cZ cF cO e0 mi x sl sh fa lw dr dx dy tg tx ty wy wx wz br bo aa ro za zw zx zy zg bq bp dq dp lv k0 (k9 + 1) cp1 cl1 U1 H → va_S (fun q : Nat => s.heap.size ≤ q) s.heap H locs → lv_has ls 4 [(3, .int (nI (6 * k9))), (2, .ref k0), (1, .ref x), (0, .ref b)] → W p l e room_1 s m #[Value.ref b] below meth c H locs (1000 + 1010 * (k9 + 1) + cp1 + 4 * cl1) (45000 + 8192 * cp1 + 512 * cl1 + U1) (lw_Z below #[Value.ref b] s) (F0 m 1081 ls [])) : W p l e room_1 s m #[Value.ref b] below meth c H locs (1000 + 1010 * k9 + cp + 4 * cl) (45000 + 8192 * cp + 512 * cl + U) (lw_Z below #[Value.ref b] s) (F0 m 913 ls []) := by
  obtain ⟨hP, hD⟩ := hPD
  obtain ⟨hx, hb, hr, hml, hown, hts1, hX, hbl, hlocks, hgv⟩ := id C0
  have hts : ∀ w9 ∈ ws0, w9.before #[Value.ref b] s = true := fun w9 h => hts1 w9 (List.mem_filter.mp h).1
  have hA : ∀ q : Nat, s.heap.size ≤ q → (fun q : Nat => s.heap.size ≤ q) q := fun _ h => h
  have hbA : ¬ (fun q : Nat => s.heap.size ≤ q) b := Nat.not_le.mpr hbl
  have hXN := hXL.1
  have hK3 := hK.sub [0, 1, 2] rfl
  obtain ⟨hm0, hm19, hm20, hm21⟩ := hM
  have hpo := shB_po hB
  have hK512 : k9 + 1 ≤ 512 := r9_k hk9 hL9
  have hwfS := hI.1.1
  have hbdC := hI.1.2.2.1
  have hT0 := hI.1.2.2.2
  have hd9 := hpo.1
  have h200t : ∀ t, bs ≤ t → t ≤ T → FT t ≤ 200 := fun t t1 t2 => Nat.le_trans (hpo.2.1 t T t1 t2 (Nat.le_refl _)) hd9.2.2.2.2
  have h200f : ft ≤ 200 := (by rw [hd9.2.2.2.1]; exact h200t dn hd9.1 hd9.2.1)
  have hrkA : ∀ q, lvF ft st tn q → 0 ≤ (rk q).toInt ∧ (rk q).toInt ≤ 9 := fun q hq => (hI.1.2.1 q (Nat.lt_of_lt_of_le hq.1 (by rw [hd9.2.2.2.1]; exact hpo.2.1 dn T hd9.1 hd9.2.1 (Nat.le_refl _)))).1
  have hwdA : ∀ q, q < ft → 0 ≤ (wd q).toInt ∧ (wd q).toInt ≤ 100 := fun q hq => (hI.1.2.1 q (Nat.lt_of_lt_of_le hq (by rw [hd9.2.2.2.1]; exact hpo.2.1 dn T hd9.1 hd9.2.1 (Nat.le_refl _)))).2
  have hcp5 := INV_cp hI (Nat.le_of_succ_le hK512)
  have hcp1 := hI.2.2.1.2.1
  have hcnt := hI.2.2.2.1
  have hlst := hI.2.2.2.2
  have hlb := mul_514 (a := Sn) (b := C) (r9_s hcnt.2.1 hK512).2.1
  have hftA := bdC_F hbdC
  have hrm := room_c (Sn := Sn) (AD := AD) (C := C) (c := cp) (cl := cl) (U := U) (r9_s hcnt.2.1 hK512).1 hI.2.2.1.2.2.2.2.2 hlst.2.2.2.1 hU
  have hrc : 1000 + 1010 * k9 + cp + 4 * cl ≤ 600000 := (by omega)
  have hefA : ∀ q, lvF ft st tn q → 1 ≤ eO (kd q).toInt (nN (mn q)) := fun q hq => eO_1 (wfS_kn hwfS q hq)
  refine la_23_1 l C0 hk9 hL9 hS hl (hv1) ?_
  obtain ⟨hPc, hDc, hFc⟩ := zt_3 hP hD hS hA
  refine zcalle (va_runV (As := [.int (nI f0)]) (rest := []) ⟨hx, hb, hml, hown, hts⟩ (k_size_w l dC dI cI cZ cF H.size x sh lw ro bq bp dq dp lv sl (nI bs) ul su (nI dn) fa ft FA f0 L f kd st tn mn cx cy rk wd tw pa pb gb it (h200f) (hf0) (shB_va hB) (wfS_ok hwfS) (hlv)) (csV_269 hts rfl rfl ⟨Nat.le_of_ble_eq_true rfl, Nat.le_of_ble_eq_true rfl⟩) (zPV2 (q0 := 0) (ci := 8) hPc hDc hK3 hXN rfl rfl) rfl rfl hl.1 rfl (lv_room (Nat.le_of_ble_eq_true rfl)) dL_law_919 ⟨hrc, hrm⟩) hS hFc hFc (fun v9 t H locs ht hB hk1 hS => ?_)
  obtain ⟨q_1, rfl, hP1, hD1⟩ := hB
  refine W.eq (g2 := F0 m 922 ls [.long q_1]) rfl ?_
  rw [ht] at hP1
  obtain ⟨hP, hD⟩ := zs_3  hP hD hk1 hFc hP1 hD1
  clear hk1 hPc hDc hFc hP1 hD1 ht
  refine lv_pop2_2 hx hb dL_law_922 rfl ?_
  refine la_23_2 l C0 hk9 hL9 hS hl (hv1) ?_
  obtain ⟨hPc, hDc, hFc⟩ := zt_5 hP hD hS hA
  refine zcall (st1 := [.long 0]) (va_runV (As := [.int (nI f0)]) (rest := []) ⟨hx, hb, hml, hown, hts⟩ (k_M_size_p l dC dI cI cZ cF H.size k0 a (upd I0 26 (nI ln)) J0 f0 ft st tn kd (hm0) (h200f) (by first | with_reducible assumption | omega) (hlv) (hk)) (csV_270 hts rfl rfl ⟨Nat.le_of_ble_eq_true rfl, Nat.le_of_ble_eq_true rfl⟩) (zPV2 (q0 := 0) (ci := 9) hPc hDc hK3 hXN rfl rfl) rfl rfl hl.1 rfl (lv_room (Nat.le_of_ble_eq_true rfl)) dL_law_929 ⟨hrc, hrm⟩) hS hFc hFc rfl (fun t H locs ht hB hk1 hS => ?_)
  obtain ⟨hP1, hD1⟩ := hB
  rw [ht] at hP1
  obtain ⟨hP, hD⟩ := zs_5  hP hD hk1 hFc hP1 hD1
  clear hk1 hPc hDc hFc hP1 hD1 ht
  refine lv_pop2_2 hx hb dL_law_932 rfl ?_
  refine lv_goto (tgt := 1081) hx hb dL_law_933 rfl ?_
  obtain ⟨hP9, hD9⟩ := And.intro hP hD
  refine W.widen (k := 1000 + 1010 * (k9 + 1) + cp + 4 * cl) (n := 45000 + 8192 * cp + 512 * cl + U) (by first | exact wdK | omega) (by first | exact Nat.le_refl _ | omega) ?_
  exact hnext cp cl U H locs ls (lawI_in L f FA ea nd nt nw ul su mc9 rd rt rw P Q TX TY WX WY AR b1 b2 b3 b4 b5 b6 b7 b8 c1 c2 c3 c4 a1 a2 a3 a4 nv RA WT EX EY GR LV y1 y2 y3 y4 a I0 J0 kd st gb it pa pb rk wd tw tn mn cx cy sa shs wh of9 we la lb lc ld P0 Q0 S0 ox oy mt wi ins T0 fl mk jx jy gr bs dn T ft Sn AD C ln FT cc W9 V VX VY hP9 hD9 (hB) (INV_K hI) ⟨hm0, hm19, hm20, hm21⟩ (by first | exact hU | omega)) hS (lv_sub hl [0, 1, 2, 3] rfl)
set_option maxHeartbeats 4000000 in
set_option maxRecDepth 100000 in
theorem lc_size_a {p : Program} {e : Env} {s : State} {m : MethodId} {below : List Frame} {meth : Method} {c : Code} (l : Launch) {b L9 : Nat} {xs : Nat → Int32} (C0 : lw_At p s m meth c b L9 xs) (dC : Nat → ClassId) (dI : Nat → Nat → Nat) (cI cZ cF cO : ClassId) (e0 mi : Nat) (x sl sh fa lw dr dx dy tg tx ty wy wx wz br bo aa ro za zw zx zy zg bq bp dq dp lv k0 : Nat) (hK : va_K (dC, dI) classes (zTyO cI cZ cF cO) s) (hXL : zXL e0 mi (fun q : Nat => s.heap.size ≤ q) s) (L : List Nat) (f : Nat → va_E) (FA : Nat → Option Nat) (ea : Nat) (nd : Nat) (nt : Nat) (nw : Nat) (ul : Int32) (su : Int32) (mc9 : Int32) (rd : Int32) (rt : Int32) (rw : Int32) (P : Nat → Int32) (Q : Nat → Int32) (TX : Nat → Int32) (TY : Nat → Int32) (WX : Nat → Int32) (WY : Nat → Int32) (AR : Nat → Int32) (b1 : Int32) (b2 : Int32) (b3 : Int32) (b4 : Int32) (b5 : Int32) (b6 : Int32) (b7 : Int32) (b8 : Int32) (c1 : Int32) (c2 : Int32) (c3 : Int32) (c4 : Int32) (a1 : Int32) (a2 : Int32) (a3 : Int32) (a4 : Int32) (nv : Int32) (RA : Nat → Option Nat) (WT : Nat → Int32) (EX : Nat → Int32) (EY : Nat → Int32) (GR : Nat → Int32) (LV : Nat → Int32) (y1 : Int64) (y2 : Int64) (y3 : Int64) (y4 : Int64) (a : Nat → Nat) (I0 : Nat → Int32) (J0 : Nat → Int64) (kd : Nat → Int32) (st : Nat → Int32) (gb : Nat → Int32) (it : Nat → Int32) (pa : Nat → Int32) (pb : Nat → Int32) (rk : Nat → Int32) (wd : Nat → Int32) (tw : Nat → Int32) (tn : Nat → Int32) (mn : Nat → Int32) (cx : Nat → Int32) (cy : Nat → Int32) (sa : Nat → Int32) (shs : Nat → Int32) (wh : Nat → Int32) (of9 : Nat → Int32) (we : Nat → Int32) (la : Nat → Int32) (lb : Nat → Int32) (lc : Nat → Int32) (ld : Nat → Int32) (P0 : Nat → Int32) (Q0 : Nat → Int32) (S0 : Nat → Int32) (ox : Nat → Int32) (oy : Nat → Int32) (mt : Nat → Int32) (wi : Nat → Int32) (ins : Nat → Int32) (T0 : Nat → Int32) (fl : Nat → Int32) (mk : Nat → Int32) (jx : Nat → Int32) (jy : Nat → Int32) (gr : Nat → Int32) (bs : Nat) (dn : Nat) (T : Nat) (ft : Nat) (Sn : Nat) (AD : Nat) (C : Nat) (ln : Nat) (FT : Nat → Nat) (cc : Nat → Nat) (W9 : Nat → Nat) (V : Nat → Nat → Nat → Int32) (VX : Nat → Nat → Int32) (VY : Nat → Nat → Int32) (cp cl U k9 : Nat) (hk9 : 6 * k9 + 6 ≤ L9) (hL9 : L9 ≤ 3072) (f0 : Nat) {H : Heap} {locs : List Loc} {ls : Array Slot} (hPD : zPD (dC, dI) classes (fun q : Nat => s.heap.size ≤ q) (((oc8 x (.ref sh) (.ref lw) (.ref ro) (.ref bq) (.ref bp) (.ref dq) (.ref dp) (.ref lv) (.ref sl) (nI dn) (nI bs) ul su) :: (oc10 sl mc9 (.ref ea) (nI T)) :: (oc7 sh (.ref fa) (nI ft)) :: (oq fa cF 200 FA) :: (oc3 lw (.ref dr) (.ref tg) (.ref wy) (.ref br) (.ref bo) (.ref aa)) :: (oc6 dr (.ref dx) (.ref dy) (nI nd) rd) :: (oa dx cI 40 P) :: (oa dy cI 40 Q) :: (oc6 tg (.ref tx) (.ref ty) (nI nt) rt) :: (oa tx cI 3 TX) :: (oa ty cI 3 TY) :: (oc6 wy (.ref wx) (.ref wz) (nI nw) rw) :: (oa wx cI 2 WX) :: (oa wz cI 2 WY) :: (oc0 br b1 b2 b3 b4) :: (oc0 bo b5 b6 b7 b8) :: (oa aa cI 40 AR) :: (oc5 ro (.ref za) (.ref zw) (.ref zx) (.ref zy) (.ref zg) nv) :: (oq za cF 200 RA) :: (oa zw cI 200 WT) :: (oa zx cI 400 EX) :: (oa zy cI 400 EY) :: (oa zg cI 400 GR) :: (oc0 bq c1 c2 c3 c4) :: (oc0 bp a1 a2 a3 a4) :: (oc2 dq y1 y2) :: (oc2 dp y3 y4) :: (oa lv cZ 200 LV) :: (om k0 a (upd I0 26 (nI ln)) J0) :: (oa (a 1) cI 201 kd) :: (oa (a 5) cI 201 st) :: (oa (a 7) cI 201 gb) :: (oa (a 10) cI 201 it) :: (oa (a 8) cI 201 pa) :: (oa (a 9) cI 201 pb) :: (oa (a 2) cI 201 rk) :: (oa (a 3) cI 201 wd) :: (oa (a 4) cI 201 tw) :: (oa (a 6) cZ 201 tn) :: (oa (a 11) cI 201 mn) :: (oa (a 12) cI 8040 cx) :: (oa (a 13) cI 8040 cy) :: (oa (a 27) cI 516 sa) :: (oa (a 28) cI (4096 * cp) shs) :: (oa (a 16) cI 514 wh) :: (oa (a 17) cI 514 of9) :: (oa (a 18) cI 514 we) :: (oa (a 22) cI (64 * cl) la) :: (oa (a 23) cI (64 * cl) lb) :: (oa (a 24) cI (64 * cl) lc) :: (oa (a 25) cI (64 * cl) ld) :: (oa (a 29) cI 42 P0) :: (oa (a 30) cI 42 Q0) :: (oa (a 32) cI 8 S0) :: (oa (a 33) cI 42 ox) :: (oa (a 34) cI 42 oy) :: (oa (a 37) cZ 201 mt) :: (oa (a 38) cZ 201 wi) :: (oa (a 39) cZ 8040 ins) :: (oa (a 40) cI 6 T0) :: (oa (a 43) cZ 40 fl) :: (oa (a 50) cZ 201 mk) :: (oa (a 51) cI 402 jx) :: (oa (a 52) cI 402 jy) :: (oa (a 53) cI 402 gr) :: []) ++ va_pl L f) H) (hS : va_S (fun q : Nat => s.heap.size ≤ q) s.heap H locs) (hl : lv_has ls 4 [(3, .int (nI (6 * k9))), (2, .ref k0), (1, .ref x), (0, .ref b)]) (hB : shB cI cO L f e0 FA ea bs dn T ft FT V VX VY tn rk wd tw pa pb wh of9 we kd st gb it mn cx cy) (hI : INV k9 Sn AD C cc W9 bs T ft cp ln cl FT V VX VY tn rk wd tw pa pb kd st it mn cx cy sa shs lb lc) (hM : I0 0 = nI ft ∧ I0 19 = nI dn ∧ I0 20 = nI (T - dn) ∧ I0 21 = nI bs) (hU : U ≤ Sn * (28 * (AD + C) + 1000) + 200 * (AD + C)) (hf0 : f0 < ft) (hv1 : xs (6 * k9 + 1) = nI f0) (hlv : lvF ft st tn f0) (hk : 5 ≤ (kd f0).toInt) (hnext : ∀ (cp1 cl1 U1 : Nat) (H : Heap) (locs : List Loc) (ls : Array Slot), lawI s dC dI cI cZ cF cO e0 mi x sl sh fa lw dr dx dy tg tx ty wy wx wz br bo aa ro za zw zx zy zg bq bp dq dp lv k0 (k9 + 1) cp1 cl1 U1 H → va_S (fun q : Nat => s.heap.size ≤ q) s.heap H locs → lv_has ls 4 [(3, .int (nI (6 * k9))), (2, .ref k0), (1, .ref x), (0, .ref b)] → W p l e room_1 s m #[Value.ref b] below meth c H locs (1000 + 1010 * (k9 + 1) + cp1 + 4 * cl1) (45000 + 8192 * cp1 + 512 * cl1 + U1) (lw_Z below #[Value.ref b] s) (F0 m 1081 ls [])) : W p l e room_1 s m #[Value.ref b] below meth c H locs (1000 + 1010 * k9 + cp + 4 * cl) (45000 + 8192 * cp + 512 * cl + U) (lw_Z below #[Value.ref b] s) (F0 m 913 ls []) := by
  obtain ⟨hP, hD⟩ := hPD
  obtain ⟨hx, hb, hr, hml, hown, hts1, hX, hbl, hlocks, hgv⟩ := id C0
  have hts : ∀ w9 ∈ ws0, w9.before #[Value.ref b] s = true := fun w9 h => hts1 w9 (List.mem_filter.mp h).1
  have hA : ∀ q : Nat, s.heap.size ≤ q → (fun q : Nat => s.heap.size ≤ q) q := fun _ h => h
  have hbA : ¬ (fun q : Nat => s.heap.size ≤ q) b := Nat.not_le.mpr hbl
  have hXN := hXL.1
  have hK3 := hK.sub [0, 1, 2] rfl
  obtain ⟨hm0, hm19, hm20, hm21⟩ := hM
  have hpo := shB_po hB
  have hK512 : k9 + 1 ≤ 512 := r9_k hk9 hL9
  have hwfS := hI.1.1
  have hbdC := hI.1.2.2.1
  have hT0 := hI.1.2.2.2
  have hd9 := hpo.1
  have h200t : ∀ t, bs ≤ t → t ≤ T → FT t ≤ 200 := fun t t1 t2 => Nat.le_trans (hpo.2.1 t T t1 t2 (Nat.le_refl _)) hd9.2.2.2.2
  have h200f : ft ≤ 200 := (by rw [hd9.2.2.2.1]; exact h200t dn hd9.1 hd9.2.1)
  have hrkA : ∀ q, lvF ft st tn q → 0 ≤ (rk q).toInt ∧ (rk q).toInt ≤ 9 := fun q hq => (hI.1.2.1 q (Nat.lt_of_lt_of_le hq.1 (by rw [hd9.2.2.2.1]; exact hpo.2.1 dn T hd9.1 hd9.2.1 (Nat.le_refl _)))).1
  have hwdA : ∀ q, q < ft → 0 ≤ (wd q).toInt ∧ (wd q).toInt ≤ 100 := fun q hq => (hI.1.2.1 q (Nat.lt_of_lt_of_le hq (by rw [hd9.2.2.2.1]; exact hpo.2.1 dn T hd9.1 hd9.2.1 (Nat.le_refl _)))).2
  have hcp5 := INV_cp hI (Nat.le_of_succ_le hK512)
  have hcp1 := hI.2.2.1.2.1
  have hcnt := hI.2.2.2.1
  have hlst := hI.2.2.2.2
  have hlb := mul_514 (a := Sn) (b := C) (r9_s hcnt.2.1 hK512).2.1
  have hftA := bdC_F hbdC
  have hrm := room_c (Sn := Sn) (AD := AD) (C := C) (c := cp) (cl := cl) (U := U) (r9_s hcnt.2.1 hK512).1 hI.2.2.1.2.2.2.2.2 hlst.2.2.2.1 hU
  have hrc : 1000 + 1010 * k9 + cp + 4 * cl ≤ 600000 := (by omega)
  have hefA : ∀ q, lvF ft st tn q → 1 ≤ eO (kd q).toInt (nN (mn q)) := fun q hq => eO_1 (wfS_kn hwfS q hq)
  refine la_23_1 l C0 hk9 hL9 hS hl (hv1) ?_
  obtain ⟨hPc, hDc, hFc⟩ := zt_3 hP hD hS hA
  refine zcalle (va_runV (As := [.int (nI f0)]) (rest := []) ⟨hx, hb, hml, hown, hts⟩ (k_size_w l dC dI cI cZ cF H.size x sh lw ro bq bp dq dp lv sl (nI bs) ul su (nI dn) fa ft FA f0 L f kd st tn mn cx cy rk wd tw pa pb gb it (h200f) (hf0) (shB_va hB) (wfS_ok hwfS) (hlv)) (csV_269 hts rfl rfl ⟨Nat.le_of_ble_eq_true rfl, Nat.le_of_ble_eq_true rfl⟩) (zPV2 (q0 := 0) (ci := 8) hPc hDc hK3 hXN rfl rfl) rfl rfl hl.1 rfl (lv_room (Nat.le_of_ble_eq_true rfl)) dL_law_919 ⟨hrc, hrm⟩) hS hFc hFc (fun v9 t H locs ht hB hk1 hS => ?_)
  obtain ⟨q_1, rfl, hP1, hD1⟩ := hB
  refine W.eq (g2 := F0 m 922 ls [.long q_1]) rfl ?_
  rw [ht] at hP1
  obtain ⟨hP, hD⟩ := zs_3  hP hD hk1 hFc hP1 hD1
  clear hk1 hPc hDc hFc hP1 hD1 ht
  refine lv_pop2_2 hx hb dL_law_922 rfl ?_
  refine la_23_2 l C0 hk9 hL9 hS hl (hv1) ?_
  obtain ⟨hPc, hDc, hFc⟩ := zt_7 hP hD hS hA
  refine zcall (st1 := [.long (jI ((arF mn cx cy f0 : Nat) : Int))]) (va_runV (As := [.int (nI f0)]) (rest := []) ⟨hx, hb, hml, hown, hts⟩ (k_M_size_a l dC dI cI cZ cF H.size k0 a (upd I0 26 (nI ln)) J0 f0 ft st tn kd mn cx cy S0 (hm0) (h200f) (wfS_wf hwfS) (by first | with_reducible assumption | omega) (hlv) (hk)) (csV_270 hts rfl rfl ⟨Nat.le_of_ble_eq_true rfl, Nat.le_of_ble_eq_true rfl⟩) (zPV2 (q0 := 0) (ci := 9) hPc hDc hK3 hXN rfl rfl) rfl rfl hl.1 rfl (lv_room (Nat.le_of_ble_eq_true rfl)) dL_law_929 ⟨hrc, hrm⟩) hS hFc hFc rfl (fun t H locs ht hB hk1 hS => ?_)
  obtain ⟨q_2, hP1, hD1⟩ := hB
  rw [ht] at hP1
  obtain ⟨hP, hD⟩ := zs_7 (u53 := (oa (a 32) cI 8 q_2)) hP hD hk1 hFc hP1 hD1
  clear hk1 hPc hDc hFc hP1 hD1 ht
  refine lv_pop2_2 hx hb dL_law_932 rfl ?_
  refine lv_goto (tgt := 1081) hx hb dL_law_933 rfl ?_
  obtain ⟨hP9, hD9⟩ := And.intro hP hD
  refine W.widen (k := 1000 + 1010 * (k9 + 1) + cp + 4 * cl) (n := 45000 + 8192 * cp + 512 * cl + U) (by first | exact wdK | omega) (by first | exact Nat.le_refl _ | omega) ?_
  exact hnext cp cl U H locs ls (lawI_in L f FA ea nd nt nw ul su mc9 rd rt rw P Q TX TY WX WY AR b1 b2 b3 b4 b5 b6 b7 b8 c1 c2 c3 c4 a1 a2 a3 a4 nv RA WT EX EY GR LV y1 y2 y3 y4 a I0 J0 kd st gb it pa pb rk wd tw tn mn cx cy sa shs wh of9 we la lb lc ld P0 Q0 q_2 ox oy mt wi ins T0 fl mk jx jy gr bs dn T ft Sn AD C ln FT cc W9 V VX VY hP9 hD9 (hB) (INV_K hI) ⟨hm0, hm19, hm20, hm21⟩ (by first | exact hU | omega)) hS (lv_sub hl [0, 1, 2, 3] rfl)
set_option maxHeartbeats 4000000 in
set_option maxRecDepth 100000 in
theorem lc_size_l {p : Program} {e : Env} {s : State} {m : MethodId} {below : List Frame} {meth : Method} {c : Code} (l : Launch) {b L9 : Nat} {xs : Nat → Int32} (C0 : lw_At p s m meth c b L9 xs) (dC : Nat → ClassId) (dI : Nat → Nat → Nat) (cI cZ cF cO : ClassId) (e0 mi : Nat) (x sl sh fa lw dr dx dy tg tx ty wy wx wz br bo aa ro za zw zx zy zg bq bp dq dp lv k0 : Nat) (hK : va_K (dC, dI) classes (zTyO cI cZ cF cO) s) (hXL : zXL e0 mi (fun q : Nat => s.heap.size ≤ q) s) (L : List Nat) (f : Nat → va_E) (FA : Nat → Option Nat) (ea : Nat) (nd : Nat) (nt : Nat) (nw : Nat) (ul : Int32) (su : Int32) (mc9 : Int32) (rd : Int32) (rt : Int32) (rw : Int32) (P : Nat → Int32) (Q : Nat → Int32) (TX : Nat → Int32) (TY : Nat → Int32) (WX : Nat → Int32) (WY : Nat → Int32) (AR : Nat → Int32) (b1 : Int32) (b2 : Int32) (b3 : Int32) (b4 : Int32) (b5 : Int32) (b6 : Int32) (b7 : Int32) (b8 : Int32) (c1 : Int32) (c2 : Int32) (c3 : Int32) (c4 : Int32) (a1 : Int32) (a2 : Int32) (a3 : Int32) (a4 : Int32) (nv : Int32) (RA : Nat → Option Nat) (WT : Nat → Int32) (EX : Nat → Int32) (EY : Nat → Int32) (GR : Nat → Int32) (LV : Nat → Int32) (y1 : Int64) (y2 : Int64) (y3 : Int64) (y4 : Int64) (a : Nat → Nat) (I0 : Nat → Int32) (J0 : Nat → Int64) (kd : Nat → Int32) (st : Nat → Int32) (gb : Nat → Int32) (it : Nat → Int32) (pa : Nat → Int32) (pb : Nat → Int32) (rk : Nat → Int32) (wd : Nat → Int32) (tw : Nat → Int32) (tn : Nat → Int32) (mn : Nat → Int32) (cx : Nat → Int32) (cy : Nat → Int32) (sa : Nat → Int32) (shs : Nat → Int32) (wh : Nat → Int32) (of9 : Nat → Int32) (we : Nat → Int32) (la : Nat → Int32) (lb : Nat → Int32) (lc : Nat → Int32) (ld : Nat → Int32) (P0 : Nat → Int32) (Q0 : Nat → Int32) (S0 : Nat → Int32) (ox : Nat → Int32) (oy : Nat → Int32) (mt : Nat → Int32) (wi : Nat → Int32) (ins : Nat → Int32) (T0 : Nat → Int32) (fl : Nat → Int32) (mk : Nat → Int32) (jx : Nat → Int32) (jy : Nat → Int32) (gr : Nat → Int32) (bs : Nat) (dn : Nat) (T : Nat) (ft : Nat) (Sn : Nat) (AD : Nat) (C : Nat) (ln : Nat) (FT : Nat → Nat) (cc : Nat → Nat) (W9 : Nat → Nat) (V : Nat → Nat → Nat → Int32) (VX : Nat → Nat → Int32) (VY : Nat → Nat → Int32) (cp cl U k9 : Nat) (hk9 : 6 * k9 + 6 ≤ L9) (hL9 : L9 ≤ 3072) (f0 : Nat) {H : Heap} {locs : List Loc} {ls : Array Slot} (hPD : zPD (dC, dI) classes (fun q : Nat => s.heap.size ≤ q) (((oc8 x (.ref sh) (.ref lw) (.ref ro) (.ref bq) (.ref bp) (.ref dq) (.ref dp) (.ref lv) (.ref sl) (nI dn) (nI bs) ul su) :: (oc10 sl mc9 (.ref ea) (nI T)) :: (oc7 sh (.ref fa) (nI ft)) :: (oq fa cF 200 FA) :: (oc3 lw (.ref dr) (.ref tg) (.ref wy) (.ref br) (.ref bo) (.ref aa)) :: (oc6 dr (.ref dx) (.ref dy) (nI nd) rd) :: (oa dx cI 40 P) :: (oa dy cI 40 Q) :: (oc6 tg (.ref tx) (.ref ty) (nI nt) rt) :: (oa tx cI 3 TX) :: (oa ty cI 3 TY) :: (oc6 wy (.ref wx) (.ref wz) (nI nw) rw) :: (oa wx cI 2 WX) :: (oa wz cI 2 WY) :: (oc0 br b1 b2 b3 b4) :: (oc0 bo b5 b6 b7 b8) :: (oa aa cI 40 AR) :: (oc5 ro (.ref za) (.ref zw) (.ref zx) (.ref zy) (.ref zg) nv) :: (oq za cF 200 RA) :: (oa zw cI 200 WT) :: (oa zx cI 400 EX) :: (oa zy cI 400 EY) :: (oa zg cI 400 GR) :: (oc0 bq c1 c2 c3 c4) :: (oc0 bp a1 a2 a3 a4) :: (oc2 dq y1 y2) :: (oc2 dp y3 y4) :: (oa lv cZ 200 LV) :: (om k0 a (upd I0 26 (nI ln)) J0) :: (oa (a 1) cI 201 kd) :: (oa (a 5) cI 201 st) :: (oa (a 7) cI 201 gb) :: (oa (a 10) cI 201 it) :: (oa (a 8) cI 201 pa) :: (oa (a 9) cI 201 pb) :: (oa (a 2) cI 201 rk) :: (oa (a 3) cI 201 wd) :: (oa (a 4) cI 201 tw) :: (oa (a 6) cZ 201 tn) :: (oa (a 11) cI 201 mn) :: (oa (a 12) cI 8040 cx) :: (oa (a 13) cI 8040 cy) :: (oa (a 27) cI 516 sa) :: (oa (a 28) cI (4096 * cp) shs) :: (oa (a 16) cI 514 wh) :: (oa (a 17) cI 514 of9) :: (oa (a 18) cI 514 we) :: (oa (a 22) cI (64 * cl) la) :: (oa (a 23) cI (64 * cl) lb) :: (oa (a 24) cI (64 * cl) lc) :: (oa (a 25) cI (64 * cl) ld) :: (oa (a 29) cI 42 P0) :: (oa (a 30) cI 42 Q0) :: (oa (a 32) cI 8 S0) :: (oa (a 33) cI 42 ox) :: (oa (a 34) cI 42 oy) :: (oa (a 37) cZ 201 mt) :: (oa (a 38) cZ 201 wi) :: (oa (a 39) cZ 8040 ins) :: (oa (a 40) cI 6 T0) :: (oa (a 43) cZ 40 fl) :: (oa (a 50) cZ 201 mk) :: (oa (a 51) cI 402 jx) :: (oa (a 52) cI 402 jy) :: (oa (a 53) cI 402 gr) :: []) ++ va_pl L f) H) (hS : va_S (fun q : Nat => s.heap.size ≤ q) s.heap H locs) (hl : lv_has ls 4 [(3, .int (nI (6 * k9))), (2, .ref k0), (1, .ref x), (0, .ref b)]) (hB : shB cI cO L f e0 FA ea bs dn T ft FT V VX VY tn rk wd tw pa pb wh of9 we kd st gb it mn cx cy) (hI : INV k9 Sn AD C cc W9 bs T ft cp ln cl FT V VX VY tn rk wd tw pa pb kd st it mn cx cy sa shs lb lc) (hM : I0 0 = nI ft ∧ I0 19 = nI dn ∧ I0 20 = nI (T - dn) ∧ I0 21 = nI bs) (hU : U ≤ Sn * (28 * (AD + C) + 1000) + 200 * (AD + C)) (hf0 : f0 < ft) (hv1 : xs (6 * k9 + 1) = nI f0) (hlv : lvF ft st tn f0) (hk : ¬ 5 ≤ (kd f0).toInt ∧ ¬ (kd f0).toInt = 0) (hnext : ∀ (cp1 cl1 U1 : Nat) (H : Heap) (locs : List Loc) (ls : Array Slot), lawI s dC dI cI cZ cF cO e0 mi x sl sh fa lw dr dx dy tg tx ty wy wx wz br bo aa ro za zw zx zy zg bq bp dq dp lv k0 (k9 + 1) cp1 cl1 U1 H → va_S (fun q : Nat => s.heap.size ≤ q) s.heap H locs → lv_has ls 4 [(3, .int (nI (6 * k9))), (2, .ref k0), (1, .ref x), (0, .ref b)] → W p l e room_1 s m #[Value.ref b] below meth c H locs (1000 + 1010 * (k9 + 1) + cp1 + 4 * cl1) (45000 + 8192 * cp1 + 512 * cl1 + U1) (lw_Z below #[Value.ref b] s) (F0 m 1081 ls [])) : W p l e room_1 s m #[Value.ref b] below meth c H locs (1000 + 1010 * k9 + cp + 4 * cl) (45000 + 8192 * cp + 512 * cl + U) (lw_Z below #[Value.ref b] s) (F0 m 913 ls []) := by
  obtain ⟨hP, hD⟩ := hPD
  obtain ⟨hx, hb, hr, hml, hown, hts1, hX, hbl, hlocks, hgv⟩ := id C0
  have hts : ∀ w9 ∈ ws0, w9.before #[Value.ref b] s = true := fun w9 h => hts1 w9 (List.mem_filter.mp h).1
  have hA : ∀ q : Nat, s.heap.size ≤ q → (fun q : Nat => s.heap.size ≤ q) q := fun _ h => h
  have hbA : ¬ (fun q : Nat => s.heap.size ≤ q) b := Nat.not_le.mpr hbl
  have hXN := hXL.1
  have hK3 := hK.sub [0, 1, 2] rfl
  obtain ⟨hm0, hm19, hm20, hm21⟩ := hM
  have hpo := shB_po hB
  have hK512 : k9 + 1 ≤ 512 := r9_k hk9 hL9
  have hwfS := hI.1.1
  have hbdC := hI.1.2.2.1
  have hT0 := hI.1.2.2.2
  have hd9 := hpo.1
  have h200t : ∀ t, bs ≤ t → t ≤ T → FT t ≤ 200 := fun t t1 t2 => Nat.le_trans (hpo.2.1 t T t1 t2 (Nat.le_refl _)) hd9.2.2.2.2
  have h200f : ft ≤ 200 := (by rw [hd9.2.2.2.1]; exact h200t dn hd9.1 hd9.2.1)
  have hrkA : ∀ q, lvF ft st tn q → 0 ≤ (rk q).toInt ∧ (rk q).toInt ≤ 9 := fun q hq => (hI.1.2.1 q (Nat.lt_of_lt_of_le hq.1 (by rw [hd9.2.2.2.1]; exact hpo.2.1 dn T hd9.1 hd9.2.1 (Nat.le_refl _)))).1
  have hwdA : ∀ q, q < ft → 0 ≤ (wd q).toInt ∧ (wd q).toInt ≤ 100 := fun q hq => (hI.1.2.1 q (Nat.lt_of_lt_of_le hq (by rw [hd9.2.2.2.1]; exact hpo.2.1 dn T hd9.1 hd9.2.1 (Nat.le_refl _)))).2
  have hcp5 := INV_cp hI (Nat.le_of_succ_le hK512)
  have hcp1 := hI.2.2.1.2.1
  have hcnt := hI.2.2.2.1
  have hlst := hI.2.2.2.2
  have hlb := mul_514 (a := Sn) (b := C) (r9_s hcnt.2.1 hK512).2.1
  have hftA := bdC_F hbdC
  have hrm := room_c (Sn := Sn) (AD := AD) (C := C) (c := cp) (cl := cl) (U := U) (r9_s hcnt.2.1 hK512).1 hI.2.2.1.2.2.2.2.2 hlst.2.2.2.1 hU
  have hrc : 1000 + 1010 * k9 + cp + 4 * cl ≤ 600000 := (by omega)
  have hefA : ∀ q, lvF ft st tn q → 1 ≤ eO (kd q).toInt (nN (mn q)) := fun q hq => eO_1 (wfS_kn hwfS q hq)
  refine la_23_1 l C0 hk9 hL9 hS hl (hv1) ?_
  obtain ⟨hPc, hDc, hFc⟩ := zt_3 hP hD hS hA
  refine zcalle (va_runV (As := [.int (nI f0)]) (rest := []) ⟨hx, hb, hml, hown, hts⟩ (k_size_w l dC dI cI cZ cF H.size x sh lw ro bq bp dq dp lv sl (nI bs) ul su (nI dn) fa ft FA f0 L f kd st tn mn cx cy rk wd tw pa pb gb it (h200f) (hf0) (shB_va hB) (wfS_ok hwfS) (hlv)) (csV_269 hts rfl rfl ⟨Nat.le_of_ble_eq_true rfl, Nat.le_of_ble_eq_true rfl⟩) (zPV2 (q0 := 0) (ci := 8) hPc hDc hK3 hXN rfl rfl) rfl rfl hl.1 rfl (lv_room (Nat.le_of_ble_eq_true rfl)) dL_law_919 ⟨hrc, hrm⟩) hS hFc hFc (fun v9 t H locs ht hB hk1 hS => ?_)
  obtain ⟨q_1, rfl, hP1, hD1⟩ := hB
  refine W.eq (g2 := F0 m 922 ls [.long q_1]) rfl ?_
  rw [ht] at hP1
  obtain ⟨hP, hD⟩ := zs_3  hP hD hk1 hFc hP1 hD1
  clear hk1 hPc hDc hFc hP1 hD1 ht
  refine lv_pop2_2 hx hb dL_law_922 rfl ?_
  refine la_23_2 l C0 hk9 hL9 hS hl (hv1) ?_
  obtain ⟨hPc, hDc, hFc⟩ := zt_7 hP hD hS hA
  refine zcall (st1 := [.long (jI ((ln2 (cF40 cx f0) (cF40 cy f0) (nN (mn f0) - 1) : Nat) : Int))]) (va_runV (As := [.int (nI f0)]) (rest := []) ⟨hx, hb, hml, hown, hts⟩ (k_M_size_l l dC dI cI cZ cF H.size k0 a (upd I0 26 (nI ln)) J0 f0 ft st tn kd mn cx cy S0 (hm0) (h200f) (wfS_wf hwfS) (by first | with_reducible assumption | omega) (hlv) (hk)) (csV_270 hts rfl rfl ⟨Nat.le_of_ble_eq_true rfl, Nat.le_of_ble_eq_true rfl⟩) (zPV2 (q0 := 0) (ci := 9) hPc hDc hK3 hXN rfl rfl) rfl rfl hl.1 rfl (lv_room (Nat.le_of_ble_eq_true rfl)) dL_law_929 ⟨hrc, hrm⟩) hS hFc hFc rfl (fun t H locs ht hB hk1 hS => ?_)
  obtain ⟨q_2, hP1, hD1⟩ := hB
  rw [ht] at hP1
  obtain ⟨hP, hD⟩ := zs_7 (u53 := (oa (a 32) cI 8 q_2)) hP hD hk1 hFc hP1 hD1
  clear hk1 hPc hDc hFc hP1 hD1 ht
  refine lv_pop2_2 hx hb dL_law_932 rfl ?_
  refine lv_goto (tgt := 1081) hx hb dL_law_933 rfl ?_
  obtain ⟨hP9, hD9⟩ := And.intro hP hD
  refine W.widen (k := 1000 + 1010 * (k9 + 1) + cp + 4 * cl) (n := 45000 + 8192 * cp + 512 * cl + U) (by first | exact wdK | omega) (by first | exact Nat.le_refl _ | omega) ?_
  exact hnext cp cl U H locs ls (lawI_in L f FA ea nd nt nw ul su mc9 rd rt rw P Q TX TY WX WY AR b1 b2 b3 b4 b5 b6 b7 b8 c1 c2 c3 c4 a1 a2 a3 a4 nv RA WT EX EY GR LV y1 y2 y3 y4 a I0 J0 kd st gb it pa pb rk wd tw tn mn cx cy sa shs wh of9 we la lb lc ld P0 Q0 q_2 ox oy mt wi ins T0 fl mk jx jy gr bs dn T ft Sn AD C ln FT cc W9 V VX VY hP9 hD9 (hB) (INV_K hI) ⟨hm0, hm19, hm20, hm21⟩ (by first | exact hU | omega)) hS (lv_sub hl [0, 1, 2, 3] rfl)
set_option maxHeartbeats 4000000 in
set_option maxRecDepth 100000 in
theorem lc_at_x {p : Program} {e : Env} {s : State} {m : MethodId} {below : List Frame} {meth : Method} {c : Code} (l : Launch) {b L9 : Nat} {xs : Nat → Int32} (C0 : lw_At p s m meth c b L9 xs) (dC : Nat → ClassId) (dI : Nat → Nat → Nat) (cI cZ cF cO : ClassId) (e0 mi : Nat) (x sl sh fa lw dr dx dy tg tx ty wy wx wz br bo aa ro za zw zx zy zg bq bp dq dp lv k0 : Nat) (hK : va_K (dC, dI) classes (zTyO cI cZ cF cO) s) (hXL : zXL e0 mi (fun q : Nat => s.heap.size ≤ q) s) (L : List Nat) (f : Nat → va_E) (FA : Nat → Option Nat) (ea : Nat) (nd : Nat) (nt : Nat) (nw : Nat) (ul : Int32) (su : Int32) (mc9 : Int32) (rd : Int32) (rt : Int32) (rw : Int32) (P : Nat → Int32) (Q : Nat → Int32) (TX : Nat → Int32) (TY : Nat → Int32) (WX : Nat → Int32) (WY : Nat → Int32) (AR : Nat → Int32) (b1 : Int32) (b2 : Int32) (b3 : Int32) (b4 : Int32) (b5 : Int32) (b6 : Int32) (b7 : Int32) (b8 : Int32) (c1 : Int32) (c2 : Int32) (c3 : Int32) (c4 : Int32) (a1 : Int32) (a2 : Int32) (a3 : Int32) (a4 : Int32) (nv : Int32) (RA : Nat → Option Nat) (WT : Nat → Int32) (EX : Nat → Int32) (EY : Nat → Int32) (GR : Nat → Int32) (LV : Nat → Int32) (y1 : Int64) (y2 : Int64) (y3 : Int64) (y4 : Int64) (a : Nat → Nat) (I0 : Nat → Int32) (J0 : Nat → Int64) (kd : Nat → Int32) (st : Nat → Int32) (gb : Nat → Int32) (it : Nat → Int32) (pa : Nat → Int32) (pb : Nat → Int32) (rk : Nat → Int32) (wd : Nat → Int32) (tw : Nat → Int32) (tn : Nat → Int32) (mn : Nat → Int32) (cx : Nat → Int32) (cy : Nat → Int32) (sa : Nat → Int32) (shs : Nat → Int32) (wh : Nat → Int32) (of9 : Nat → Int32) (we : Nat → Int32) (la : Nat → Int32) (lb : Nat → Int32) (lc : Nat → Int32) (ld : Nat → Int32) (P0 : Nat → Int32) (Q0 : Nat → Int32) (S0 : Nat → Int32) (ox : Nat → Int32) (oy : Nat → Int32) (mt : Nat → Int32) (wi : Nat → Int32) (ins : Nat → Int32) (T0 : Nat → Int32) (fl : Nat → Int32) (mk : Nat → Int32) (jx : Nat → Int32) (jy : Nat → Int32) (gr : Nat → Int32) (bs : Nat) (dn : Nat) (T : Nat) (ft : Nat) (Sn : Nat) (AD : Nat) (C : Nat) (ln : Nat) (FT : Nat → Nat) (cc : Nat → Nat) (W9 : Nat → Nat) (V : Nat → Nat → Nat → Int32) (VX : Nat → Nat → Int32) (VY : Nat → Nat → Int32) (cp cl U k9 : Nat) (hk9 : 6 * k9 + 6 ≤ L9) (hL9 : L9 ≤ 3072) {H : Heap} {locs : List Loc} {ls : Array Slot} (hPD : zPD (dC, dI) classes (fun q : Nat => s.heap.size ≤ q) (((oc8 x (.ref sh) (.ref lw) (.ref ro) (.ref bq) (.ref bp) (.ref dq) (.ref dp) (.ref lv) (.ref sl) (nI dn) (nI bs) ul su) :: (oc10 sl mc9 (.ref ea) (nI T)) :: (oc7 sh (.ref fa) (nI ft)) :: (oq fa cF 200 FA) :: (oc3 lw (.ref dr) (.ref tg) (.ref wy) (.ref br) (.ref bo) (.ref aa)) :: (oc6 dr (.ref dx) (.ref dy) (nI nd) rd) :: (oa dx cI 40 P) :: (oa dy cI 40 Q) :: (oc6 tg (.ref tx) (.ref ty) (nI nt) rt) :: (oa tx cI 3 TX) :: (oa ty cI 3 TY) :: (oc6 wy (.ref wx) (.ref wz) (nI nw) rw) :: (oa wx cI 2 WX) :: (oa wz cI 2 WY) :: (oc0 br b1 b2 b3 b4) :: (oc0 bo b5 b6 b7 b8) :: (oa aa cI 40 AR) :: (oc5 ro (.ref za) (.ref zw) (.ref zx) (.ref zy) (.ref zg) nv) :: (oq za cF 200 RA) :: (oa zw cI 200 WT) :: (oa zx cI 400 EX) :: (oa zy cI 400 EY) :: (oa zg cI 400 GR) :: (oc0 bq c1 c2 c3 c4) :: (oc0 bp a1 a2 a3 a4) :: (oc2 dq y1 y2) :: (oc2 dp y3 y4) :: (oa lv cZ 200 LV) :: (om k0 a (upd I0 26 (nI ln)) J0) :: (oa (a 1) cI 201 kd) :: (oa (a 5) cI 201 st) :: (oa (a 7) cI 201 gb) :: (oa (a 10) cI 201 it) :: (oa (a 8) cI 201 pa) :: (oa (a 9) cI 201 pb) :: (oa (a 2) cI 201 rk) :: (oa (a 3) cI 201 wd) :: (oa (a 4) cI 201 tw) :: (oa (a 6) cZ 201 tn) :: (oa (a 11) cI 201 mn) :: (oa (a 12) cI 8040 cx) :: (oa (a 13) cI 8040 cy) :: (oa (a 27) cI 516 sa) :: (oa (a 28) cI (4096 * cp) shs) :: (oa (a 16) cI 514 wh) :: (oa (a 17) cI 514 of9) :: (oa (a 18) cI 514 we) :: (oa (a 22) cI (64 * cl) la) :: (oa (a 23) cI (64 * cl) lb) :: (oa (a 24) cI (64 * cl) lc) :: (oa (a 25) cI (64 * cl) ld) :: (oa (a 29) cI 42 P0) :: (oa (a 30) cI 42 Q0) :: (oa (a 32) cI 8 S0) :: (oa (a 33) cI 42 ox) :: (oa (a 34) cI 42 oy) :: (oa (a 37) cZ 201 mt) :: (oa (a 38) cZ 201 wi) :: (oa (a 39) cZ 8040 ins) :: (oa (a 40) cI 6 T0) :: (oa (a 43) cZ 40 fl) :: (oa (a 50) cZ 201 mk) :: (oa (a 51) cI 402 jx) :: (oa (a 52) cI 402 jy) :: (oa (a 53) cI 402 gr) :: []) ++ va_pl L f) H) (hS : va_S (fun q : Nat => s.heap.size ≤ q) s.heap H locs) (hl : lv_has ls 4 [(3, .int (nI (6 * k9))), (2, .ref k0), (1, .ref x), (0, .ref b)]) (hB : shB cI cO L f e0 FA ea bs dn T ft FT V VX VY tn rk wd tw pa pb wh of9 we kd st gb it mn cx cy) (hI : INV k9 Sn AD C cc W9 bs T ft cp ln cl FT V VX VY tn rk wd tw pa pb kd st it mn cx cy sa shs lb lc) (hM : I0 0 = nI ft ∧ I0 19 = nI dn ∧ I0 20 = nI (T - dn) ∧ I0 21 = nI bs) (hU : U ≤ Sn * (28 * (AD + C) + 1000) + 200 * (AD + C)) (hbad : ¬ (0 ≤ (xs (6 * k9 + 1)).toInt ∧ (xs (6 * k9 + 1)).toInt < ((ft : Nat) : Int))) (hnext : ∀ (cp1 cl1 U1 : Nat) (H : Heap) (locs : List Loc) (ls : Array Slot), lawI s dC dI cI cZ cF cO e0 mi x sl sh fa lw dr dx dy tg tx ty wy wx wz br bo aa ro za zw zx zy zg bq bp dq dp lv k0 (k9 + 1) cp1 cl1 U1 H → va_S (fun q : Nat => s.heap.size ≤ q) s.heap H locs → lv_has ls 4 [(3, .int (nI (6 * k9))), (2, .ref k0), (1, .ref x), (0, .ref b)] → W p l e room_1 s m #[Value.ref b] below meth c H locs (1000 + 1010 * (k9 + 1) + cp1 + 4 * cl1) (45000 + 8192 * cp1 + 512 * cl1 + U1) (lw_Z below #[Value.ref b] s) (F0 m 1081 ls [])) : W p l e room_1 s m #[Value.ref b] below meth c H locs (1000 + 1010 * k9 + cp + 4 * cl) (45000 + 8192 * cp + 512 * cl + U) (lw_Z below #[Value.ref b] s) (F0 m 936 ls []) := by
  obtain ⟨hP, hD⟩ := hPD
  obtain ⟨hx, hb, hr, hml, hown, hts1, hX, hbl, hlocks, hgv⟩ := id C0
  have hts : ∀ w9 ∈ ws0, w9.before #[Value.ref b] s = true := fun w9 h => hts1 w9 (List.mem_filter.mp h).1
  have hA : ∀ q : Nat, s.heap.size ≤ q → (fun q : Nat => s.heap.size ≤ q) q := fun _ h => h
  have hbA : ¬ (fun q : Nat => s.heap.size ≤ q) b := Nat.not_le.mpr hbl
  have hXN := hXL.1
  have hK3 := hK.sub [0, 1, 2] rfl
  obtain ⟨hm0, hm19, hm20, hm21⟩ := hM
  have hpo := shB_po hB
  have hK512 : k9 + 1 ≤ 512 := r9_k hk9 hL9
  have hwfS := hI.1.1
  have hbdC := hI.1.2.2.1
  have hT0 := hI.1.2.2.2
  have hd9 := hpo.1
  have h200t : ∀ t, bs ≤ t → t ≤ T → FT t ≤ 200 := fun t t1 t2 => Nat.le_trans (hpo.2.1 t T t1 t2 (Nat.le_refl _)) hd9.2.2.2.2
  have h200f : ft ≤ 200 := (by rw [hd9.2.2.2.1]; exact h200t dn hd9.1 hd9.2.1)
  have hrkA : ∀ q, lvF ft st tn q → 0 ≤ (rk q).toInt ∧ (rk q).toInt ≤ 9 := fun q hq => (hI.1.2.1 q (Nat.lt_of_lt_of_le hq.1 (by rw [hd9.2.2.2.1]; exact hpo.2.1 dn T hd9.1 hd9.2.1 (Nat.le_refl _)))).1
  have hwdA : ∀ q, q < ft → 0 ≤ (wd q).toInt ∧ (wd q).toInt ≤ 100 := fun q hq => (hI.1.2.1 q (Nat.lt_of_lt_of_le hq (by rw [hd9.2.2.2.1]; exact hpo.2.1 dn T hd9.1 hd9.2.1 (Nat.le_refl _)))).2
  have hcp5 := INV_cp hI (Nat.le_of_succ_le hK512)
  have hcp1 := hI.2.2.1.2.1
  have hcnt := hI.2.2.2.1
  have hlst := hI.2.2.2.2
  have hlb := mul_514 (a := Sn) (b := C) (r9_s hcnt.2.1 hK512).2.1
  have hftA := bdC_F hbdC
  have hrm := room_c (Sn := Sn) (AD := AD) (C := C) (c := cp) (cl := cl) (U := U) (r9_s hcnt.2.1 hK512).1 hI.2.2.1.2.2.2.2.2 hlst.2.2.2.1 hU
  have hrc : 1000 + 1010 * k9 + cp + 4 * cl ≤ 600000 := (by omega)
  have hefA : ∀ q, lvF ft st tn q → 1 ≤ eO (kd q).toInt (nN (mn q)) := fun q hq => eO_1 (wfS_kn hwfS q hq)
  refine la_24_1 l C0 hk9 hL9 hS hl (rfl) (rfl) (rfl) ?_
  obtain ⟨hPc, hDc, hFc⟩ := zt_1 hP hD hS hA
  refine zcall (st1 := [.int (-1)]) (va_runV (As := [.int (xs (6 * k9 + 1)), .int (xs (6 * k9 + 2)), .int (xs (6 * k9 + 3))]) (rest := []) ⟨hx, hb, hml, hown, hts⟩ (k_at_x l dC dI cI cZ cF H.size x sh lw ro bq bp dq dp lv sl (nI bs) ul su (nI dn) fa ft FA (xs (6 * k9 + 1)) (xs (6 * k9 + 2)) (xs (6 * k9 + 3)) (h200f) (hbad)) (csV_271 hts rfl rfl ⟨Nat.le_of_ble_eq_true rfl, Nat.le_of_ble_eq_true rfl⟩) (zPV2 (q0 := 0) (ci := 8) hPc hDc hK3 hXN rfl rfl) rfl rfl hl.1 rfl (lv_room (Nat.le_of_ble_eq_true rfl)) dL_law_952 ⟨hrc, hrm⟩) hS hFc hFc rfl (fun t H locs ht hB hk1 hS => ?_)
  obtain ⟨hP1, hD1⟩ := hB
  rw [ht] at hP1
  obtain ⟨hP, hD⟩ := zs_1  hP hD hk1 hFc hP1 hD1
  clear hk1 hPc hDc hFc hP1 hD1 ht
  refine lv_pop hx hb dL_law_955 rfl ?_
  refine la_24_2 l C0 hk9 hL9 hS hl (rfl) (rfl) (rfl) ?_
  obtain ⟨hPc, hDc, hFc⟩ := zt_2 hP hD hS hA
  refine zcall (st1 := [.int (-1)]) (va_runV (As := [.int (xs (6 * k9 + 1)), .int (xs (6 * k9 + 2)), .int (xs (6 * k9 + 3))]) (rest := []) ⟨hx, hb, hml, hown, hts⟩ (k_M_at_x l dC dI cI cZ cF H.size k0 a (upd I0 26 (nI ln)) J0 ft (xs (6 * k9 + 1)) (xs (6 * k9 + 2)) (xs (6 * k9 + 3)) (hm0) (h200f) (hbad)) (csV_272 hts rfl rfl ⟨Nat.le_of_ble_eq_true rfl, Nat.le_of_ble_eq_true rfl⟩) (zPV2 (q0 := 0) (ci := 9) hPc hDc hK3 hXN rfl rfl) rfl rfl hl.1 rfl (lv_room (Nat.le_of_ble_eq_true rfl)) dL_law_972 ⟨hrc, hrm⟩) hS hFc hFc rfl (fun t H locs ht hB hk1 hS => ?_)
  obtain ⟨hP1, hD1⟩ := hB
  rw [ht] at hP1
  obtain ⟨hP, hD⟩ := zs_2  hP hD hk1 hFc hP1 hD1
  clear hk1 hPc hDc hFc hP1 hD1 ht
  refine lv_pop hx hb dL_law_975 rfl ?_
  refine lv_goto (tgt := 1081) hx hb dL_law_976 rfl ?_
  obtain ⟨hP9, hD9⟩ := And.intro hP hD
  refine W.widen (k := 1000 + 1010 * (k9 + 1) + cp + 4 * cl) (n := 45000 + 8192 * cp + 512 * cl + U) (by first | exact wdK | omega) (by first | exact Nat.le_refl _ | omega) ?_
  exact hnext cp cl U H locs ls (lawI_in L f FA ea nd nt nw ul su mc9 rd rt rw P Q TX TY WX WY AR b1 b2 b3 b4 b5 b6 b7 b8 c1 c2 c3 c4 a1 a2 a3 a4 nv RA WT EX EY GR LV y1 y2 y3 y4 a I0 J0 kd st gb it pa pb rk wd tw tn mn cx cy sa shs wh of9 we la lb lc ld P0 Q0 S0 ox oy mt wi ins T0 fl mk jx jy gr bs dn T ft Sn AD C ln FT cc W9 V VX VY hP9 hD9 (hB) (INV_K hI) ⟨hm0, hm19, hm20, hm21⟩ (by first | exact hU | omega)) hS (lv_sub hl [0, 1, 2, 3] rfl)
set_option maxHeartbeats 4000000 in
set_option maxRecDepth 100000 in
theorem lc_at_r {p : Program} {e : Env} {s : State} {m : MethodId} {below : List Frame} {meth : Method} {c : Code} (l : Launch) {b L9 : Nat} {xs : Nat → Int32} (C0 : lw_At p s m meth c b L9 xs) (dC : Nat → ClassId) (dI : Nat → Nat → Nat) (cI cZ cF cO : ClassId) (e0 mi : Nat) (x sl sh fa lw dr dx dy tg tx ty wy wx wz br bo aa ro za zw zx zy zg bq bp dq dp lv k0 : Nat) (hK : va_K (dC, dI) classes (zTyO cI cZ cF cO) s) (hXL : zXL e0 mi (fun q : Nat => s.heap.size ≤ q) s) (L : List Nat) (f : Nat → va_E) (FA : Nat → Option Nat) (ea : Nat) (nd : Nat) (nt : Nat) (nw : Nat) (ul : Int32) (su : Int32) (mc9 : Int32) (rd : Int32) (rt : Int32) (rw : Int32) (P : Nat → Int32) (Q : Nat → Int32) (TX : Nat → Int32) (TY : Nat → Int32) (WX : Nat → Int32) (WY : Nat → Int32) (AR : Nat → Int32) (b1 : Int32) (b2 : Int32) (b3 : Int32) (b4 : Int32) (b5 : Int32) (b6 : Int32) (b7 : Int32) (b8 : Int32) (c1 : Int32) (c2 : Int32) (c3 : Int32) (c4 : Int32) (a1 : Int32) (a2 : Int32) (a3 : Int32) (a4 : Int32) (nv : Int32) (RA : Nat → Option Nat) (WT : Nat → Int32) (EX : Nat → Int32) (EY : Nat → Int32) (GR : Nat → Int32) (LV : Nat → Int32) (y1 : Int64) (y2 : Int64) (y3 : Int64) (y4 : Int64) (a : Nat → Nat) (I0 : Nat → Int32) (J0 : Nat → Int64) (kd : Nat → Int32) (st : Nat → Int32) (gb : Nat → Int32) (it : Nat → Int32) (pa : Nat → Int32) (pb : Nat → Int32) (rk : Nat → Int32) (wd : Nat → Int32) (tw : Nat → Int32) (tn : Nat → Int32) (mn : Nat → Int32) (cx : Nat → Int32) (cy : Nat → Int32) (sa : Nat → Int32) (shs : Nat → Int32) (wh : Nat → Int32) (of9 : Nat → Int32) (we : Nat → Int32) (la : Nat → Int32) (lb : Nat → Int32) (lc : Nat → Int32) (ld : Nat → Int32) (P0 : Nat → Int32) (Q0 : Nat → Int32) (S0 : Nat → Int32) (ox : Nat → Int32) (oy : Nat → Int32) (mt : Nat → Int32) (wi : Nat → Int32) (ins : Nat → Int32) (T0 : Nat → Int32) (fl : Nat → Int32) (mk : Nat → Int32) (jx : Nat → Int32) (jy : Nat → Int32) (gr : Nat → Int32) (bs : Nat) (dn : Nat) (T : Nat) (ft : Nat) (Sn : Nat) (AD : Nat) (C : Nat) (ln : Nat) (FT : Nat → Nat) (cc : Nat → Nat) (W9 : Nat → Nat) (V : Nat → Nat → Nat → Int32) (VX : Nat → Nat → Int32) (VY : Nat → Nat → Int32) (cp cl U k9 : Nat) (hk9 : 6 * k9 + 6 ≤ L9) (hL9 : L9 ≤ 3072) (f0 : Nat) {H : Heap} {locs : List Loc} {ls : Array Slot} (hPD : zPD (dC, dI) classes (fun q : Nat => s.heap.size ≤ q) (((oc8 x (.ref sh) (.ref lw) (.ref ro) (.ref bq) (.ref bp) (.ref dq) (.ref dp) (.ref lv) (.ref sl) (nI dn) (nI bs) ul su) :: (oc10 sl mc9 (.ref ea) (nI T)) :: (oc7 sh (.ref fa) (nI ft)) :: (oq fa cF 200 FA) :: (oc3 lw (.ref dr) (.ref tg) (.ref wy) (.ref br) (.ref bo) (.ref aa)) :: (oc6 dr (.ref dx) (.ref dy) (nI nd) rd) :: (oa dx cI 40 P) :: (oa dy cI 40 Q) :: (oc6 tg (.ref tx) (.ref ty) (nI nt) rt) :: (oa tx cI 3 TX) :: (oa ty cI 3 TY) :: (oc6 wy (.ref wx) (.ref wz) (nI nw) rw) :: (oa wx cI 2 WX) :: (oa wz cI 2 WY) :: (oc0 br b1 b2 b3 b4) :: (oc0 bo b5 b6 b7 b8) :: (oa aa cI 40 AR) :: (oc5 ro (.ref za) (.ref zw) (.ref zx) (.ref zy) (.ref zg) nv) :: (oq za cF 200 RA) :: (oa zw cI 200 WT) :: (oa zx cI 400 EX) :: (oa zy cI 400 EY) :: (oa zg cI 400 GR) :: (oc0 bq c1 c2 c3 c4) :: (oc0 bp a1 a2 a3 a4) :: (oc2 dq y1 y2) :: (oc2 dp y3 y4) :: (oa lv cZ 200 LV) :: (om k0 a (upd I0 26 (nI ln)) J0) :: (oa (a 1) cI 201 kd) :: (oa (a 5) cI 201 st) :: (oa (a 7) cI 201 gb) :: (oa (a 10) cI 201 it) :: (oa (a 8) cI 201 pa) :: (oa (a 9) cI 201 pb) :: (oa (a 2) cI 201 rk) :: (oa (a 3) cI 201 wd) :: (oa (a 4) cI 201 tw) :: (oa (a 6) cZ 201 tn) :: (oa (a 11) cI 201 mn) :: (oa (a 12) cI 8040 cx) :: (oa (a 13) cI 8040 cy) :: (oa (a 27) cI 516 sa) :: (oa (a 28) cI (4096 * cp) shs) :: (oa (a 16) cI 514 wh) :: (oa (a 17) cI 514 of9) :: (oa (a 18) cI 514 we) :: (oa (a 22) cI (64 * cl) la) :: (oa (a 23) cI (64 * cl) lb) :: (oa (a 24) cI (64 * cl) lc) :: (oa (a 25) cI (64 * cl) ld) :: (oa (a 29) cI 42 P0) :: (oa (a 30) cI 42 Q0) :: (oa (a 32) cI 8 S0) :: (oa (a 33) cI 42 ox) :: (oa (a 34) cI 42 oy) :: (oa (a 37) cZ 201 mt) :: (oa (a 38) cZ 201 wi) :: (oa (a 39) cZ 8040 ins) :: (oa (a 40) cI 6 T0) :: (oa (a 43) cZ 40 fl) :: (oa (a 50) cZ 201 mk) :: (oa (a 51) cI 402 jx) :: (oa (a 52) cI 402 jy) :: (oa (a 53) cI 402 gr) :: []) ++ va_pl L f) H) (hS : va_S (fun q : Nat => s.heap.size ≤ q) s.heap H locs) (hl : lv_has ls 4 [(3, .int (nI (6 * k9))), (2, .ref k0), (1, .ref x), (0, .ref b)]) (hB : shB cI cO L f e0 FA ea bs dn T ft FT V VX VY tn rk wd tw pa pb wh of9 we kd st gb it mn cx cy) (hI : INV k9 Sn AD C cc W9 bs T ft cp ln cl FT V VX VY tn rk wd tw pa pb kd st it mn cx cy sa shs lb lc) (hM : I0 0 = nI ft ∧ I0 19 = nI dn ∧ I0 20 = nI (T - dn) ∧ I0 21 = nI bs) (hU : U ≤ Sn * (28 * (AD + C) + 1000) + 200 * (AD + C)) (hf0 : f0 < ft) (hv1 : xs (6 * k9 + 1) = nI f0) (hbad : ¬ ((tn f0).toInt = 0 ∧ 0 ≤ (xs (6 * k9 + 2)).toInt ∧ (xs (6 * k9 + 2)).toInt < ((nN (mn f0) : Nat) : Int))) (hnext : ∀ (cp1 cl1 U1 : Nat) (H : Heap) (locs : List Loc) (ls : Array Slot), lawI s dC dI cI cZ cF cO e0 mi x sl sh fa lw dr dx dy tg tx ty wy wx wz br bo aa ro za zw zx zy zg bq bp dq dp lv k0 (k9 + 1) cp1 cl1 U1 H → va_S (fun q : Nat => s.heap.size ≤ q) s.heap H locs → lv_has ls 4 [(3, .int (nI (6 * k9))), (2, .ref k0), (1, .ref x), (0, .ref b)] → W p l e room_1 s m #[Value.ref b] below meth c H locs (1000 + 1010 * (k9 + 1) + cp1 + 4 * cl1) (45000 + 8192 * cp1 + 512 * cl1 + U1) (lw_Z below #[Value.ref b] s) (F0 m 1081 ls [])) : W p l e room_1 s m #[Value.ref b] below meth c H locs (1000 + 1010 * k9 + cp + 4 * cl) (45000 + 8192 * cp + 512 * cl + U) (lw_Z below #[Value.ref b] s) (F0 m 936 ls []) := by
  obtain ⟨hP, hD⟩ := hPD
  obtain ⟨hx, hb, hr, hml, hown, hts1, hX, hbl, hlocks, hgv⟩ := id C0
  have hts : ∀ w9 ∈ ws0, w9.before #[Value.ref b] s = true := fun w9 h => hts1 w9 (List.mem_filter.mp h).1
  have hA : ∀ q : Nat, s.heap.size ≤ q → (fun q : Nat => s.heap.size ≤ q) q := fun _ h => h
  have hbA : ¬ (fun q : Nat => s.heap.size ≤ q) b := Nat.not_le.mpr hbl
  have hXN := hXL.1
  have hK3 := hK.sub [0, 1, 2] rfl
  obtain ⟨hm0, hm19, hm20, hm21⟩ := hM
  have hpo := shB_po hB
  have hK512 : k9 + 1 ≤ 512 := r9_k hk9 hL9
  have hwfS := hI.1.1
  have hbdC := hI.1.2.2.1
  have hT0 := hI.1.2.2.2
  have hd9 := hpo.1
  have h200t : ∀ t, bs ≤ t → t ≤ T → FT t ≤ 200 := fun t t1 t2 => Nat.le_trans (hpo.2.1 t T t1 t2 (Nat.le_refl _)) hd9.2.2.2.2
  have h200f : ft ≤ 200 := (by rw [hd9.2.2.2.1]; exact h200t dn hd9.1 hd9.2.1)
  have hrkA : ∀ q, lvF ft st tn q → 0 ≤ (rk q).toInt ∧ (rk q).toInt ≤ 9 := fun q hq => (hI.1.2.1 q (Nat.lt_of_lt_of_le hq.1 (by rw [hd9.2.2.2.1]; exact hpo.2.1 dn T hd9.1 hd9.2.1 (Nat.le_refl _)))).1
  have hwdA : ∀ q, q < ft → 0 ≤ (wd q).toInt ∧ (wd q).toInt ≤ 100 := fun q hq => (hI.1.2.1 q (Nat.lt_of_lt_of_le hq (by rw [hd9.2.2.2.1]; exact hpo.2.1 dn T hd9.1 hd9.2.1 (Nat.le_refl _)))).2
  have hcp5 := INV_cp hI (Nat.le_of_succ_le hK512)
  have hcp1 := hI.2.2.1.2.1
  have hcnt := hI.2.2.2.1
  have hlst := hI.2.2.2.2
  have hlb := mul_514 (a := Sn) (b := C) (r9_s hcnt.2.1 hK512).2.1
  have hftA := bdC_F hbdC
  have hrm := room_c (Sn := Sn) (AD := AD) (C := C) (c := cp) (cl := cl) (U := U) (r9_s hcnt.2.1 hK512).1 hI.2.2.1.2.2.2.2.2 hlst.2.2.2.1 hU
  have hrc : 1000 + 1010 * k9 + cp + 4 * cl ≤ 600000 := (by omega)
  have hefA : ∀ q, lvF ft st tn q → 1 ≤ eO (kd q).toInt (nN (mn q)) := fun q hq => eO_1 (wfS_kn hwfS q hq)
  have hmn9 : mn f0 = nI (nN (mn f0)) ∧ nN (mn f0) ≤ 40 := (by by_cases t0 : (tn f0).toInt = 0; exact ⟨((hwfS f0 hf0).2.2.1 t0).1.1, ((hwfS f0 hf0).2.2.1 t0).1.2.1⟩; rw [hT0 f0 (by omega) t0]; decide)
  refine la_24_1 l C0 hk9 hL9 hS hl (hv1) (rfl) (rfl) ?_
  obtain ⟨hPc, hDc, hFc⟩ := zt_3 hP hD hS hA
  refine zcalle (va_runV (As := [.int (nI f0), .int (xs (6 * k9 + 2)), .int (xs (6 * k9 + 3))]) (rest := []) ⟨hx, hb, hml, hown, hts⟩ (k_at_a l dC dI cI cZ cF H.size x sh lw ro bq bp dq dp lv sl (nI bs) ul su (nI dn) fa ft FA f0 L f kd st tn mn cx cy rk wd tw pa pb gb it (xs (6 * k9 + 2)) (xs (6 * k9 + 3)) (h200f) (hf0) (shB_va hB)) (csV_271 hts rfl rfl ⟨Nat.le_of_ble_eq_true rfl, Nat.le_of_ble_eq_true rfl⟩) (zPV2 (q0 := 0) (ci := 8) hPc hDc hK3 hXN rfl rfl) rfl rfl hl.1 rfl (lv_room (Nat.le_of_ble_eq_true rfl)) dL_law_952 ⟨hrc, hrm⟩) hS hFc hFc (fun v9 t H locs ht hB hk1 hS => ?_)
  obtain ⟨q_1, rfl, hP1, hD1⟩ := hB
  refine W.eq (g2 := F0 m 955 ls [.int q_1]) rfl ?_
  rw [ht] at hP1
  obtain ⟨hP, hD⟩ := zs_3  hP hD hk1 hFc hP1 hD1
  clear hk1 hPc hDc hFc hP1 hD1 ht
  refine lv_pop hx hb dL_law_955 rfl ?_
  refine la_24_2 l C0 hk9 hL9 hS hl (hv1) (rfl) (rfl) ?_
  obtain ⟨hPc, hDc, hFc⟩ := zt_20 hP hD hS hA
  refine zcall (st1 := [.int (-1)]) (va_runV (As := [.int (nI f0), .int (xs (6 * k9 + 2)), .int (xs (6 * k9 + 3))]) (rest := []) ⟨hx, hb, hml, hown, hts⟩ (k_M_at_r l dC dI cI cZ cF H.size k0 a (upd I0 26 (nI ln)) J0 f0 (nN (mn f0)) ft (xs (6 * k9 + 2)) (xs (6 * k9 + 3)) tn mn (hm0) (h200f) (by first | with_reducible assumption | omega) (hmn9.1) (hmn9.2) (hbad)) (csV_272 hts rfl rfl ⟨Nat.le_of_ble_eq_true rfl, Nat.le_of_ble_eq_true rfl⟩) (zPV2 (q0 := 0) (ci := 9) hPc hDc hK3 hXN rfl rfl) rfl rfl hl.1 rfl (lv_room (Nat.le_of_ble_eq_true rfl)) dL_law_972 ⟨hrc, hrm⟩) hS hFc hFc rfl (fun t H locs ht hB hk1 hS => ?_)
  obtain ⟨hP1, hD1⟩ := hB
  rw [ht] at hP1
  obtain ⟨hP, hD⟩ := zs_20  hP hD hk1 hFc hP1 hD1
  clear hk1 hPc hDc hFc hP1 hD1 ht
  refine lv_pop hx hb dL_law_975 rfl ?_
  refine lv_goto (tgt := 1081) hx hb dL_law_976 rfl ?_
  obtain ⟨hP9, hD9⟩ := And.intro hP hD
  refine W.widen (k := 1000 + 1010 * (k9 + 1) + cp + 4 * cl) (n := 45000 + 8192 * cp + 512 * cl + U) (by first | exact wdK | omega) (by first | exact Nat.le_refl _ | omega) ?_
  exact hnext cp cl U H locs ls (lawI_in L f FA ea nd nt nw ul su mc9 rd rt rw P Q TX TY WX WY AR b1 b2 b3 b4 b5 b6 b7 b8 c1 c2 c3 c4 a1 a2 a3 a4 nv RA WT EX EY GR LV y1 y2 y3 y4 a I0 J0 kd st gb it pa pb rk wd tw tn mn cx cy sa shs wh of9 we la lb lc ld P0 Q0 S0 ox oy mt wi ins T0 fl mk jx jy gr bs dn T ft Sn AD C ln FT cc W9 V VX VY hP9 hD9 (hB) (INV_K hI) ⟨hm0, hm19, hm20, hm21⟩ (by first | exact hU | omega)) hS (lv_sub hl [0, 1, 2, 3] rfl)
end
section
set_option maxHeartbeats 4000000 in
set_option maxRecDepth 100000 in
theorem lc_at_0 {p : Program} {e : Env} {s : State} {m : MethodId} {below : List Frame} {meth : Method} {c : Code} (l : Launch) {b L9 : Nat} {xs : Nat → Int32} (C0 : lw_At p s m meth c b L9 xs) (dC : Nat → ClassId) (dI : Nat → Nat → Nat) (cI cZ cF cO : ClassId) (e0 mi : Nat) (x sl sh fa lw dr dx dy tg tx ty wy wx wz br bo aa ro za zw zx zy zg bq bp dq dp lv k0 : Nat) (hK : va_K (dC, dI) classes (zTyO cI cZ cF cO) s) (hXL : zXL e0 mi (fun q : Nat => s.heap.size ≤ q) s) (L : List Nat) (f : Nat → va_E) (FA : Nat → Option Nat) (ea : Nat) (nd : Nat) (nt : Nat) (nw : Nat) (ul : Int32) (su : Int32) (mc9 : Int32) (rd : Int32) (rt : Int32) (rw : Int32) (P : Nat → Int32) (Q : Nat → Int32) (TX : Nat → Int32) (TY : Nat → Int32) (WX : Nat → Int32) (WY : Nat → Int32) (AR : Nat → Int32) (b1 : Int32) (b2 : Int32) (b3 : Int32) (b4 : Int32) (b5 : Int32) (b6 : Int32) (b7 : Int32) (b8 : Int32) (c1 : Int32) (c2 : Int32) (c3 : Int32) (c4 : Int32) (a1 : Int32) (a2 : Int32) (a3 : Int32) (a4 : Int32) (nv : Int32) (RA : Nat → Option Nat) (WT : Nat → Int32) (EX : Nat → Int32) (EY : Nat → Int32) (GR : Nat → Int32) (LV : Nat → Int32) (y1 : Int64) (y2 : Int64) (y3 : Int64) (y4 : Int64) (a : Nat → Nat) (I0 : Nat → Int32) (J0 : Nat → Int64) (kd : Nat → Int32) (st : Nat → Int32) (gb : Nat → Int32) (it : Nat → Int32) (pa : Nat → Int32) (pb : Nat → Int32) (rk : Nat → Int32) (wd : Nat → Int32) (tw : Nat → Int32) (tn : Nat → Int32) (mn : Nat → Int32) (cx : Nat → Int32) (cy : Nat → Int32) (sa : Nat → Int32) (shs : Nat → Int32) (wh : Nat → Int32) (of9 : Nat → Int32) (we : Nat → Int32) (la : Nat → Int32) (lb : Nat → Int32) (lc : Nat → Int32) (ld : Nat → Int32) (P0 : Nat → Int32) (Q0 : Nat → Int32) (S0 : Nat → Int32) (ox : Nat → Int32) (oy : Nat → Int32) (mt : Nat → Int32) (wi : Nat → Int32) (ins : Nat → Int32) (T0 : Nat → Int32) (fl : Nat → Int32) (mk : Nat → Int32) (jx : Nat → Int32) (jy : Nat → Int32) (gr : Nat → Int32) (bs : Nat) (dn : Nat) (T : Nat) (ft : Nat) (Sn : Nat) (AD : Nat) (C : Nat) (ln : Nat) (FT : Nat → Nat) (cc : Nat → Nat) (W9 : Nat → Nat) (V : Nat → Nat → Nat → Int32) (VX : Nat → Nat → Int32) (VY : Nat → Nat → Int32) (cp cl U k9 : Nat) (hk9 : 6 * k9 + 6 ≤ L9) (hL9 : L9 ≤ 3072) (f0 : Nat) (kk : Nat) {H : Heap} {locs : List Loc} {ls : Array Slot} (hPD : zPD (dC, dI) classes (fun q : Nat => s.heap.size ≤ q) (((oc8 x (.ref sh) (.ref lw) (.ref ro) (.ref bq) (.ref bp) (.ref dq) (.ref dp) (.ref lv) (.ref sl) (nI dn) (nI bs) ul su) :: (oc10 sl mc9 (.ref ea) (nI T)) :: (oc7 sh (.ref fa) (nI ft)) :: (oq fa cF 200 FA) :: (oc3 lw (.ref dr) (.ref tg) (.ref wy) (.ref br) (.ref bo) (.ref aa)) :: (oc6 dr (.ref dx) (.ref dy) (nI nd) rd) :: (oa dx cI 40 P) :: (oa dy cI 40 Q) :: (oc6 tg (.ref tx) (.ref ty) (nI nt) rt) :: (oa tx cI 3 TX) :: (oa ty cI 3 TY) :: (oc6 wy (.ref wx) (.ref wz) (nI nw) rw) :: (oa wx cI 2 WX) :: (oa wz cI 2 WY) :: (oc0 br b1 b2 b3 b4) :: (oc0 bo b5 b6 b7 b8) :: (oa aa cI 40 AR) :: (oc5 ro (.ref za) (.ref zw) (.ref zx) (.ref zy) (.ref zg) nv) :: (oq za cF 200 RA) :: (oa zw cI 200 WT) :: (oa zx cI 400 EX) :: (oa zy cI 400 EY) :: (oa zg cI 400 GR) :: (oc0 bq c1 c2 c3 c4) :: (oc0 bp a1 a2 a3 a4) :: (oc2 dq y1 y2) :: (oc2 dp y3 y4) :: (oa lv cZ 200 LV) :: (om k0 a (upd I0 26 (nI ln)) J0) :: (oa (a 1) cI 201 kd) :: (oa (a 5) cI 201 st) :: (oa (a 7) cI 201 gb) :: (oa (a 10) cI 201 it) :: (oa (a 8) cI 201 pa) :: (oa (a 9) cI 201 pb) :: (oa (a 2) cI 201 rk) :: (oa (a 3) cI 201 wd) :: (oa (a 4) cI 201 tw) :: (oa (a 6) cZ 201 tn) :: (oa (a 11) cI 201 mn) :: (oa (a 12) cI 8040 cx) :: (oa (a 13) cI 8040 cy) :: (oa (a 27) cI 516 sa) :: (oa (a 28) cI (4096 * cp) shs) :: (oa (a 16) cI 514 wh) :: (oa (a 17) cI 514 of9) :: (oa (a 18) cI 514 we) :: (oa (a 22) cI (64 * cl) la) :: (oa (a 23) cI (64 * cl) lb) :: (oa (a 24) cI (64 * cl) lc) :: (oa (a 25) cI (64 * cl) ld) :: (oa (a 29) cI 42 P0) :: (oa (a 30) cI 42 Q0) :: (oa (a 32) cI 8 S0) :: (oa (a 33) cI 42 ox) :: (oa (a 34) cI 42 oy) :: (oa (a 37) cZ 201 mt) :: (oa (a 38) cZ 201 wi) :: (oa (a 39) cZ 8040 ins) :: (oa (a 40) cI 6 T0) :: (oa (a 43) cZ 40 fl) :: (oa (a 50) cZ 201 mk) :: (oa (a 51) cI 402 jx) :: (oa (a 52) cI 402 jy) :: (oa (a 53) cI 402 gr) :: []) ++ va_pl L f) H) (hS : va_S (fun q : Nat => s.heap.size ≤ q) s.heap H locs) (hl : lv_has ls 4 [(3, .int (nI (6 * k9))), (2, .ref k0), (1, .ref x), (0, .ref b)]) (hB : shB cI cO L f e0 FA ea bs dn T ft FT V VX VY tn rk wd tw pa pb wh of9 we kd st gb it mn cx cy) (hI : INV k9 Sn AD C cc W9 bs T ft cp ln cl FT V VX VY tn rk wd tw pa pb kd st it mn cx cy sa shs lb lc) (hM : I0 0 = nI ft ∧ I0 19 = nI dn ∧ I0 20 = nI (T - dn) ∧ I0 21 = nI bs) (hU : U ≤ Sn * (28 * (AD + C) + 1000) + 200 * (AD + C)) (hf0 : f0 < ft) (hv1 : xs (6 * k9 + 1) = nI f0) (hv2 : xs (6 * k9 + 2) = nI kk) (htn : (tn f0).toInt = 0) (hkk : kk < nN (mn f0)) (hv3 : xs (6 * k9 + 3) = 0) (hnext : ∀ (cp1 cl1 U1 : Nat) (H : Heap) (locs : List Loc) (ls : Array Slot), lawI s dC dI cI cZ cF cO e0 mi x sl sh fa lw dr dx dy tg tx ty wy wx wz br bo aa ro za zw zx zy zg bq bp dq dp lv k0 (k9 + 1) cp1 cl1 U1 H → va_S (fun q : Nat => s.heap.size ≤ q) s.heap H locs → lv_has ls 4 [(3, .int (nI (6 * k9))), (2, .ref k0), (1, .ref x), (0, .ref b)] → W p l e room_1 s m #[Value.ref b] below meth c H locs (1000 + 1010 * (k9 + 1) + cp1 + 4 * cl1) (45000 + 8192 * cp1 + 512 * cl1 + U1) (lw_Z below #[Value.ref b] s) (F0 m 1081 ls [])) : W p l e room_1 s m #[Value.ref b] below meth c H locs (1000 + 1010 * k9 + cp + 4 * cl) (45000 + 8192 * cp + 512 * cl + U) (lw_Z below #[Value.ref b] s) (F0 m 936 ls []) := by
  obtain ⟨hP, hD⟩ := hPD
  obtain ⟨hx, hb, hr, hml, hown, hts1, hX, hbl, hlocks, hgv⟩ := id C0
  have hts : ∀ w9 ∈ ws0, w9.before #[Value.ref b] s = true := fun w9 h => hts1 w9 (List.mem_filter.mp h).1
  have hA : ∀ q : Nat, s.heap.size ≤ q → (fun q : Nat => s.heap.size ≤ q) q := fun _ h => h
  have hbA : ¬ (fun q : Nat => s.heap.size ≤ q) b := Nat.not_le.mpr hbl
  have hXN := hXL.1
  have hK3 := hK.sub [0, 1, 2] rfl
  obtain ⟨hm0, hm19, hm20, hm21⟩ := hM
  have hpo := shB_po hB
  have hK512 : k9 + 1 ≤ 512 := r9_k hk9 hL9
  have hwfS := hI.1.1
  have hbdC := hI.1.2.2.1
  have hT0 := hI.1.2.2.2
  have hd9 := hpo.1
  have h200t : ∀ t, bs ≤ t → t ≤ T → FT t ≤ 200 := fun t t1 t2 => Nat.le_trans (hpo.2.1 t T t1 t2 (Nat.le_refl _)) hd9.2.2.2.2
  have h200f : ft ≤ 200 := (by rw [hd9.2.2.2.1]; exact h200t dn hd9.1 hd9.2.1)
  have hrkA : ∀ q, lvF ft st tn q → 0 ≤ (rk q).toInt ∧ (rk q).toInt ≤ 9 := fun q hq => (hI.1.2.1 q (Nat.lt_of_lt_of_le hq.1 (by rw [hd9.2.2.2.1]; exact hpo.2.1 dn T hd9.1 hd9.2.1 (Nat.le_refl _)))).1
  have hwdA : ∀ q, q < ft → 0 ≤ (wd q).toInt ∧ (wd q).toInt ≤ 100 := fun q hq => (hI.1.2.1 q (Nat.lt_of_lt_of_le hq (by rw [hd9.2.2.2.1]; exact hpo.2.1 dn T hd9.1 hd9.2.1 (Nat.le_refl _)))).2
  have hcp5 := INV_cp hI (Nat.le_of_succ_le hK512)
  have hcp1 := hI.2.2.1.2.1
  have hcnt := hI.2.2.2.1
  have hlst := hI.2.2.2.2
  have hlb := mul_514 (a := Sn) (b := C) (r9_s hcnt.2.1 hK512).2.1
  have hftA := bdC_F hbdC
  have hrm := room_c (Sn := Sn) (AD := AD) (C := C) (c := cp) (cl := cl) (U := U) (r9_s hcnt.2.1 hK512).1 hI.2.2.1.2.2.2.2.2 hlst.2.2.2.1 hU
  have hrc : 1000 + 1010 * k9 + cp + 4 * cl ≤ 600000 := (by omega)
  have hefA : ∀ q, lvF ft st tn q → 1 ≤ eO (kd q).toInt (nN (mn q)) := fun q hq => eO_1 (wfS_kn hwfS q hq)
  have hmn9 : mn f0 = nI (nN (mn f0)) ∧ nN (mn f0) ≤ 40 := (by by_cases t0 : (tn f0).toInt = 0; exact ⟨((hwfS f0 hf0).2.2.1 t0).1.1, ((hwfS f0 hf0).2.2.1 t0).1.2.1⟩; rw [hT0 f0 (by omega) t0]; decide)
  refine la_24_1 l C0 hk9 hL9 hS hl (hv1) (hv2) (hv3) ?_
  obtain ⟨hPc, hDc, hFc⟩ := zt_3 hP hD hS hA
  refine zcalle (va_runV (As := [.int (nI f0), .int (nI kk), .int 0]) (rest := []) ⟨hx, hb, hml, hown, hts⟩ (k_at_a l dC dI cI cZ cF H.size x sh lw ro bq bp dq dp lv sl (nI bs) ul su (nI dn) fa ft FA f0 L f kd st tn mn cx cy rk wd tw pa pb gb it (nI kk) 0 (h200f) (hf0) (shB_va hB)) (csV_271 hts rfl rfl ⟨Nat.le_of_ble_eq_true rfl, Nat.le_of_ble_eq_true rfl⟩) (zPV2 (q0 := 0) (ci := 8) hPc hDc hK3 hXN rfl rfl) rfl rfl hl.1 rfl (lv_room (Nat.le_of_ble_eq_true rfl)) dL_law_952 ⟨hrc, hrm⟩) hS hFc hFc (fun v9 t H locs ht hB hk1 hS => ?_)
  obtain ⟨q_1, rfl, hP1, hD1⟩ := hB
  refine W.eq (g2 := F0 m 955 ls [.int q_1]) rfl ?_
  rw [ht] at hP1
  obtain ⟨hP, hD⟩ := zs_3  hP hD hk1 hFc hP1 hD1
  clear hk1 hPc hDc hFc hP1 hD1 ht
  refine lv_pop hx hb dL_law_955 rfl ?_
  refine la_24_2 l C0 hk9 hL9 hS hl (hv1) (hv2) (hv3) ?_
  obtain ⟨hPc, hDc, hFc, hI1⟩ := zi_sub (wc := [_, _, _, _]) hP hD hS hA [28, 38, 39, 40] (by decide +kernel) rfl
  refine zcall (st1 := [.int (cF40 cx f0 kk)]) (va_runV (As := [.int (nI f0), .int (nI kk), .int 0]) (rest := []) ⟨hx, hb, hml, hown, hts⟩ (k_M_at_0 l dC dI cI cZ cF H.size k0 a (upd I0 26 (nI ln)) J0 f0 (nN (mn f0)) kk ft tn mn cx (hm0) (h200f) (by first | with_reducible assumption | omega) (hmn9.1) (hmn9.2) (htn) (hkk)) (csV_272 hts rfl rfl ⟨Nat.le_of_ble_eq_true rfl, Nat.le_of_ble_eq_true rfl⟩) (zPV2 (q0 := 0) (ci := 9) hPc hDc hK3 hXN rfl rfl) rfl rfl hl.1 rfl (lv_room (Nat.le_of_ble_eq_true rfl)) dL_law_972 ⟨hrc, hrm⟩) hS hFc hFc rfl (fun t H locs ht hB hk1 hS => ?_)
  obtain ⟨hP1, hD1⟩ := hB
  rw [ht] at hP1
  replace hP := z0 hP hD hk1 hP1 hI1
  clear hk1 hPc hDc hFc hP1 hD1 ht hI1
  refine lv_pop hx hb dL_law_975 rfl ?_
  refine lv_goto (tgt := 1081) hx hb dL_law_976 rfl ?_
  obtain ⟨hP9, hD9⟩ := And.intro hP hD
  refine W.widen (k := 1000 + 1010 * (k9 + 1) + cp + 4 * cl) (n := 45000 + 8192 * cp + 512 * cl + U) (by first | exact wdK | omega) (by first | exact Nat.le_refl _ | omega) ?_
  exact hnext cp cl U H locs ls (lawI_in L f FA ea nd nt nw ul su mc9 rd rt rw P Q TX TY WX WY AR b1 b2 b3 b4 b5 b6 b7 b8 c1 c2 c3 c4 a1 a2 a3 a4 nv RA WT EX EY GR LV y1 y2 y3 y4 a I0 J0 kd st gb it pa pb rk wd tw tn mn cx cy sa shs wh of9 we la lb lc ld P0 Q0 S0 ox oy mt wi ins T0 fl mk jx jy gr bs dn T ft Sn AD C ln FT cc W9 V VX VY hP9 hD9 (hB) (INV_K hI) ⟨hm0, hm19, hm20, hm21⟩ (by first | exact hU | omega)) hS (lv_sub hl [0, 1, 2, 3] rfl)
set_option maxHeartbeats 4000000 in
set_option maxRecDepth 100000 in
theorem lc_at_1 {p : Program} {e : Env} {s : State} {m : MethodId} {below : List Frame} {meth : Method} {c : Code} (l : Launch) {b L9 : Nat} {xs : Nat → Int32} (C0 : lw_At p s m meth c b L9 xs) (dC : Nat → ClassId) (dI : Nat → Nat → Nat) (cI cZ cF cO : ClassId) (e0 mi : Nat) (x sl sh fa lw dr dx dy tg tx ty wy wx wz br bo aa ro za zw zx zy zg bq bp dq dp lv k0 : Nat) (hK : va_K (dC, dI) classes (zTyO cI cZ cF cO) s) (hXL : zXL e0 mi (fun q : Nat => s.heap.size ≤ q) s) (L : List Nat) (f : Nat → va_E) (FA : Nat → Option Nat) (ea : Nat) (nd : Nat) (nt : Nat) (nw : Nat) (ul : Int32) (su : Int32) (mc9 : Int32) (rd : Int32) (rt : Int32) (rw : Int32) (P : Nat → Int32) (Q : Nat → Int32) (TX : Nat → Int32) (TY : Nat → Int32) (WX : Nat → Int32) (WY : Nat → Int32) (AR : Nat → Int32) (b1 : Int32) (b2 : Int32) (b3 : Int32) (b4 : Int32) (b5 : Int32) (b6 : Int32) (b7 : Int32) (b8 : Int32) (c1 : Int32) (c2 : Int32) (c3 : Int32) (c4 : Int32) (a1 : Int32) (a2 : Int32) (a3 : Int32) (a4 : Int32) (nv : Int32) (RA : Nat → Option Nat) (WT : Nat → Int32) (EX : Nat → Int32) (EY : Nat → Int32) (GR : Nat → Int32) (LV : Nat → Int32) (y1 : Int64) (y2 : Int64) (y3 : Int64) (y4 : Int64) (a : Nat → Nat) (I0 : Nat → Int32) (J0 : Nat → Int64) (kd : Nat → Int32) (st : Nat → Int32) (gb : Nat → Int32) (it : Nat → Int32) (pa : Nat → Int32) (pb : Nat → Int32) (rk : Nat → Int32) (wd : Nat → Int32) (tw : Nat → Int32) (tn : Nat → Int32) (mn : Nat → Int32) (cx : Nat → Int32) (cy : Nat → Int32) (sa : Nat → Int32) (shs : Nat → Int32) (wh : Nat → Int32) (of9 : Nat → Int32) (we : Nat → Int32) (la : Nat → Int32) (lb : Nat → Int32) (lc : Nat → Int32) (ld : Nat → Int32) (P0 : Nat → Int32) (Q0 : Nat → Int32) (S0 : Nat → Int32) (ox : Nat → Int32) (oy : Nat → Int32) (mt : Nat → Int32) (wi : Nat → Int32) (ins : Nat → Int32) (T0 : Nat → Int32) (fl : Nat → Int32) (mk : Nat → Int32) (jx : Nat → Int32) (jy : Nat → Int32) (gr : Nat → Int32) (bs : Nat) (dn : Nat) (T : Nat) (ft : Nat) (Sn : Nat) (AD : Nat) (C : Nat) (ln : Nat) (FT : Nat → Nat) (cc : Nat → Nat) (W9 : Nat → Nat) (V : Nat → Nat → Nat → Int32) (VX : Nat → Nat → Int32) (VY : Nat → Nat → Int32) (cp cl U k9 : Nat) (hk9 : 6 * k9 + 6 ≤ L9) (hL9 : L9 ≤ 3072) (f0 : Nat) (kk : Nat) {H : Heap} {locs : List Loc} {ls : Array Slot} (hPD : zPD (dC, dI) classes (fun q : Nat => s.heap.size ≤ q) (((oc8 x (.ref sh) (.ref lw) (.ref ro) (.ref bq) (.ref bp) (.ref dq) (.ref dp) (.ref lv) (.ref sl) (nI dn) (nI bs) ul su) :: (oc10 sl mc9 (.ref ea) (nI T)) :: (oc7 sh (.ref fa) (nI ft)) :: (oq fa cF 200 FA) :: (oc3 lw (.ref dr) (.ref tg) (.ref wy) (.ref br) (.ref bo) (.ref aa)) :: (oc6 dr (.ref dx) (.ref dy) (nI nd) rd) :: (oa dx cI 40 P) :: (oa dy cI 40 Q) :: (oc6 tg (.ref tx) (.ref ty) (nI nt) rt) :: (oa tx cI 3 TX) :: (oa ty cI 3 TY) :: (oc6 wy (.ref wx) (.ref wz) (nI nw) rw) :: (oa wx cI 2 WX) :: (oa wz cI 2 WY) :: (oc0 br b1 b2 b3 b4) :: (oc0 bo b5 b6 b7 b8) :: (oa aa cI 40 AR) :: (oc5 ro (.ref za) (.ref zw) (.ref zx) (.ref zy) (.ref zg) nv) :: (oq za cF 200 RA) :: (oa zw cI 200 WT) :: (oa zx cI 400 EX) :: (oa zy cI 400 EY) :: (oa zg cI 400 GR) :: (oc0 bq c1 c2 c3 c4) :: (oc0 bp a1 a2 a3 a4) :: (oc2 dq y1 y2) :: (oc2 dp y3 y4) :: (oa lv cZ 200 LV) :: (om k0 a (upd I0 26 (nI ln)) J0) :: (oa (a 1) cI 201 kd) :: (oa (a 5) cI 201 st) :: (oa (a 7) cI 201 gb) :: (oa (a 10) cI 201 it) :: (oa (a 8) cI 201 pa) :: (oa (a 9) cI 201 pb) :: (oa (a 2) cI 201 rk) :: (oa (a 3) cI 201 wd) :: (oa (a 4) cI 201 tw) :: (oa (a 6) cZ 201 tn) :: (oa (a 11) cI 201 mn) :: (oa (a 12) cI 8040 cx) :: (oa (a 13) cI 8040 cy) :: (oa (a 27) cI 516 sa) :: (oa (a 28) cI (4096 * cp) shs) :: (oa (a 16) cI 514 wh) :: (oa (a 17) cI 514 of9) :: (oa (a 18) cI 514 we) :: (oa (a 22) cI (64 * cl) la) :: (oa (a 23) cI (64 * cl) lb) :: (oa (a 24) cI (64 * cl) lc) :: (oa (a 25) cI (64 * cl) ld) :: (oa (a 29) cI 42 P0) :: (oa (a 30) cI 42 Q0) :: (oa (a 32) cI 8 S0) :: (oa (a 33) cI 42 ox) :: (oa (a 34) cI 42 oy) :: (oa (a 37) cZ 201 mt) :: (oa (a 38) cZ 201 wi) :: (oa (a 39) cZ 8040 ins) :: (oa (a 40) cI 6 T0) :: (oa (a 43) cZ 40 fl) :: (oa (a 50) cZ 201 mk) :: (oa (a 51) cI 402 jx) :: (oa (a 52) cI 402 jy) :: (oa (a 53) cI 402 gr) :: []) ++ va_pl L f) H) (hS : va_S (fun q : Nat => s.heap.size ≤ q) s.heap H locs) (hl : lv_has ls 4 [(3, .int (nI (6 * k9))), (2, .ref k0), (1, .ref x), (0, .ref b)]) (hB : shB cI cO L f e0 FA ea bs dn T ft FT V VX VY tn rk wd tw pa pb wh of9 we kd st gb it mn cx cy) (hI : INV k9 Sn AD C cc W9 bs T ft cp ln cl FT V VX VY tn rk wd tw pa pb kd st it mn cx cy sa shs lb lc) (hM : I0 0 = nI ft ∧ I0 19 = nI dn ∧ I0 20 = nI (T - dn) ∧ I0 21 = nI bs) (hU : U ≤ Sn * (28 * (AD + C) + 1000) + 200 * (AD + C)) (hf0 : f0 < ft) (hv1 : xs (6 * k9 + 1) = nI f0) (hv2 : xs (6 * k9 + 2) = nI kk) (htn : (tn f0).toInt = 0) (hkk : kk < nN (mn f0)) (hv3 : xs (6 * k9 + 3) = 1) (hnext : ∀ (cp1 cl1 U1 : Nat) (H : Heap) (locs : List Loc) (ls : Array Slot), lawI s dC dI cI cZ cF cO e0 mi x sl sh fa lw dr dx dy tg tx ty wy wx wz br bo aa ro za zw zx zy zg bq bp dq dp lv k0 (k9 + 1) cp1 cl1 U1 H → va_S (fun q : Nat => s.heap.size ≤ q) s.heap H locs → lv_has ls 4 [(3, .int (nI (6 * k9))), (2, .ref k0), (1, .ref x), (0, .ref b)] → W p l e room_1 s m #[Value.ref b] below meth c H locs (1000 + 1010 * (k9 + 1) + cp1 + 4 * cl1) (45000 + 8192 * cp1 + 512 * cl1 + U1) (lw_Z below #[Value.ref b] s) (F0 m 1081 ls [])) : W p l e room_1 s m #[Value.ref b] below meth c H locs (1000 + 1010 * k9 + cp + 4 * cl) (45000 + 8192 * cp + 512 * cl + U) (lw_Z below #[Value.ref b] s) (F0 m 936 ls []) := by
  obtain ⟨hP, hD⟩ := hPD
  obtain ⟨hx, hb, hr, hml, hown, hts1, hX, hbl, hlocks, hgv⟩ := id C0
  have hts : ∀ w9 ∈ ws0, w9.before #[Value.ref b] s = true := fun w9 h => hts1 w9 (List.mem_filter.mp h).1
  have hA : ∀ q : Nat, s.heap.size ≤ q → (fun q : Nat => s.heap.size ≤ q) q := fun _ h => h
  have hbA : ¬ (fun q : Nat => s.heap.size ≤ q) b := Nat.not_le.mpr hbl
  have hXN := hXL.1
  have hK3 := hK.sub [0, 1, 2] rfl
  obtain ⟨hm0, hm19, hm20, hm21⟩ := hM
  have hpo := shB_po hB
  have hK512 : k9 + 1 ≤ 512 := r9_k hk9 hL9
  have hwfS := hI.1.1
  have hbdC := hI.1.2.2.1
  have hT0 := hI.1.2.2.2
  have hd9 := hpo.1
  have h200t : ∀ t, bs ≤ t → t ≤ T → FT t ≤ 200 := fun t t1 t2 => Nat.le_trans (hpo.2.1 t T t1 t2 (Nat.le_refl _)) hd9.2.2.2.2
  have h200f : ft ≤ 200 := (by rw [hd9.2.2.2.1]; exact h200t dn hd9.1 hd9.2.1)
  have hrkA : ∀ q, lvF ft st tn q → 0 ≤ (rk q).toInt ∧ (rk q).toInt ≤ 9 := fun q hq => (hI.1.2.1 q (Nat.lt_of_lt_of_le hq.1 (by rw [hd9.2.2.2.1]; exact hpo.2.1 dn T hd9.1 hd9.2.1 (Nat.le_refl _)))).1
  have hwdA : ∀ q, q < ft → 0 ≤ (wd q).toInt ∧ (wd q).toInt ≤ 100 := fun q hq => (hI.1.2.1 q (Nat.lt_of_lt_of_le hq (by rw [hd9.2.2.2.1]; exact hpo.2.1 dn T hd9.1 hd9.2.1 (Nat.le_refl _)))).2
  have hcp5 := INV_cp hI (Nat.le_of_succ_le hK512)
  have hcp1 := hI.2.2.1.2.1
  have hcnt := hI.2.2.2.1
  have hlst := hI.2.2.2.2
  have hlb := mul_514 (a := Sn) (b := C) (r9_s hcnt.2.1 hK512).2.1
  have hftA := bdC_F hbdC
  have hrm := room_c (Sn := Sn) (AD := AD) (C := C) (c := cp) (cl := cl) (U := U) (r9_s hcnt.2.1 hK512).1 hI.2.2.1.2.2.2.2.2 hlst.2.2.2.1 hU
  have hrc : 1000 + 1010 * k9 + cp + 4 * cl ≤ 600000 := (by omega)
  have hefA : ∀ q, lvF ft st tn q → 1 ≤ eO (kd q).toInt (nN (mn q)) := fun q hq => eO_1 (wfS_kn hwfS q hq)
  have hmn9 : mn f0 = nI (nN (mn f0)) ∧ nN (mn f0) ≤ 40 := (by by_cases t0 : (tn f0).toInt = 0; exact ⟨((hwfS f0 hf0).2.2.1 t0).1.1, ((hwfS f0 hf0).2.2.1 t0).1.2.1⟩; rw [hT0 f0 (by omega) t0]; decide)
  refine la_24_1 l C0 hk9 hL9 hS hl (hv1) (hv2) (hv3) ?_
  obtain ⟨hPc, hDc, hFc⟩ := zt_3 hP hD hS hA
  refine zcalle (va_runV (As := [.int (nI f0), .int (nI kk), .int 1]) (rest := []) ⟨hx, hb, hml, hown, hts⟩ (k_at_a l dC dI cI cZ cF H.size x sh lw ro bq bp dq dp lv sl (nI bs) ul su (nI dn) fa ft FA f0 L f kd st tn mn cx cy rk wd tw pa pb gb it (nI kk) 1 (h200f) (hf0) (shB_va hB)) (csV_271 hts rfl rfl ⟨Nat.le_of_ble_eq_true rfl, Nat.le_of_ble_eq_true rfl⟩) (zPV2 (q0 := 0) (ci := 8) hPc hDc hK3 hXN rfl rfl) rfl rfl hl.1 rfl (lv_room (Nat.le_of_ble_eq_true rfl)) dL_law_952 ⟨hrc, hrm⟩) hS hFc hFc (fun v9 t H locs ht hB hk1 hS => ?_)
  obtain ⟨q_1, rfl, hP1, hD1⟩ := hB
  refine W.eq (g2 := F0 m 955 ls [.int q_1]) rfl ?_
  rw [ht] at hP1
  obtain ⟨hP, hD⟩ := zs_3  hP hD hk1 hFc hP1 hD1
  clear hk1 hPc hDc hFc hP1 hD1 ht
  refine lv_pop hx hb dL_law_955 rfl ?_
  refine la_24_2 l C0 hk9 hL9 hS hl (hv1) (hv2) (hv3) ?_
  obtain ⟨hPc, hDc, hFc, hI1⟩ := zi_sub (wc := [_, _, _, _]) hP hD hS hA [28, 38, 39, 41] (by decide +kernel) rfl
  refine zcall (st1 := [.int (cF40 cy f0 kk)]) (va_runV (As := [.int (nI f0), .int (nI kk), .int 1]) (rest := []) ⟨hx, hb, hml, hown, hts⟩ (k_M_at_1 l dC dI cI cZ cF H.size k0 a (upd I0 26 (nI ln)) J0 f0 (nN (mn f0)) kk ft tn mn cy (hm0) (h200f) (by first | with_reducible assumption | omega) (hmn9.1) (hmn9.2) (htn) (hkk)) (csV_272 hts rfl rfl ⟨Nat.le_of_ble_eq_true rfl, Nat.le_of_ble_eq_true rfl⟩) (zPV2 (q0 := 0) (ci := 9) hPc hDc hK3 hXN rfl rfl) rfl rfl hl.1 rfl (lv_room (Nat.le_of_ble_eq_true rfl)) dL_law_972 ⟨hrc, hrm⟩) hS hFc hFc rfl (fun t H locs ht hB hk1 hS => ?_)
  obtain ⟨hP1, hD1⟩ := hB
  rw [ht] at hP1
  replace hP := z0 hP hD hk1 hP1 hI1
  clear hk1 hPc hDc hFc hP1 hD1 ht hI1
  refine lv_pop hx hb dL_law_975 rfl ?_
  refine lv_goto (tgt := 1081) hx hb dL_law_976 rfl ?_
  obtain ⟨hP9, hD9⟩ := And.intro hP hD
  refine W.widen (k := 1000 + 1010 * (k9 + 1) + cp + 4 * cl) (n := 45000 + 8192 * cp + 512 * cl + U) (by first | exact wdK | omega) (by first | exact Nat.le_refl _ | omega) ?_
  exact hnext cp cl U H locs ls (lawI_in L f FA ea nd nt nw ul su mc9 rd rt rw P Q TX TY WX WY AR b1 b2 b3 b4 b5 b6 b7 b8 c1 c2 c3 c4 a1 a2 a3 a4 nv RA WT EX EY GR LV y1 y2 y3 y4 a I0 J0 kd st gb it pa pb rk wd tw tn mn cx cy sa shs wh of9 we la lb lc ld P0 Q0 S0 ox oy mt wi ins T0 fl mk jx jy gr bs dn T ft Sn AD C ln FT cc W9 V VX VY hP9 hD9 (hB) (INV_K hI) ⟨hm0, hm19, hm20, hm21⟩ (by first | exact hU | omega)) hS (lv_sub hl [0, 1, 2, 3] rfl)
set_option maxHeartbeats 4000000 in
set_option maxRecDepth 100000 in
theorem lc_at_d {p : Program} {e : Env} {s : State} {m : MethodId} {below : List Frame} {meth : Method} {c : Code} (l : Launch) {b L9 : Nat} {xs : Nat → Int32} (C0 : lw_At p s m meth c b L9 xs) (dC : Nat → ClassId) (dI : Nat → Nat → Nat) (cI cZ cF cO : ClassId) (e0 mi : Nat) (x sl sh fa lw dr dx dy tg tx ty wy wx wz br bo aa ro za zw zx zy zg bq bp dq dp lv k0 : Nat) (hK : va_K (dC, dI) classes (zTyO cI cZ cF cO) s) (hXL : zXL e0 mi (fun q : Nat => s.heap.size ≤ q) s) (L : List Nat) (f : Nat → va_E) (FA : Nat → Option Nat) (ea : Nat) (nd : Nat) (nt : Nat) (nw : Nat) (ul : Int32) (su : Int32) (mc9 : Int32) (rd : Int32) (rt : Int32) (rw : Int32) (P : Nat → Int32) (Q : Nat → Int32) (TX : Nat → Int32) (TY : Nat → Int32) (WX : Nat → Int32) (WY : Nat → Int32) (AR : Nat → Int32) (b1 : Int32) (b2 : Int32) (b3 : Int32) (b4 : Int32) (b5 : Int32) (b6 : Int32) (b7 : Int32) (b8 : Int32) (c1 : Int32) (c2 : Int32) (c3 : Int32) (c4 : Int32) (a1 : Int32) (a2 : Int32) (a3 : Int32) (a4 : Int32) (nv : Int32) (RA : Nat → Option Nat) (WT : Nat → Int32) (EX : Nat → Int32) (EY : Nat → Int32) (GR : Nat → Int32) (LV : Nat → Int32) (y1 : Int64) (y2 : Int64) (y3 : Int64) (y4 : Int64) (a : Nat → Nat) (I0 : Nat → Int32) (J0 : Nat → Int64) (kd : Nat → Int32) (st : Nat → Int32) (gb : Nat → Int32) (it : Nat → Int32) (pa : Nat → Int32) (pb : Nat → Int32) (rk : Nat → Int32) (wd : Nat → Int32) (tw : Nat → Int32) (tn : Nat → Int32) (mn : Nat → Int32) (cx : Nat → Int32) (cy : Nat → Int32) (sa : Nat → Int32) (shs : Nat → Int32) (wh : Nat → Int32) (of9 : Nat → Int32) (we : Nat → Int32) (la : Nat → Int32) (lb : Nat → Int32) (lc : Nat → Int32) (ld : Nat → Int32) (P0 : Nat → Int32) (Q0 : Nat → Int32) (S0 : Nat → Int32) (ox : Nat → Int32) (oy : Nat → Int32) (mt : Nat → Int32) (wi : Nat → Int32) (ins : Nat → Int32) (T0 : Nat → Int32) (fl : Nat → Int32) (mk : Nat → Int32) (jx : Nat → Int32) (jy : Nat → Int32) (gr : Nat → Int32) (bs : Nat) (dn : Nat) (T : Nat) (ft : Nat) (Sn : Nat) (AD : Nat) (C : Nat) (ln : Nat) (FT : Nat → Nat) (cc : Nat → Nat) (W9 : Nat → Nat) (V : Nat → Nat → Nat → Int32) (VX : Nat → Nat → Int32) (VY : Nat → Nat → Int32) (cp cl U k9 : Nat) (hk9 : 6 * k9 + 6 ≤ L9) (hL9 : L9 ≤ 3072) (f0 : Nat) (kk : Nat) {H : Heap} {locs : List Loc} {ls : Array Slot} (hPD : zPD (dC, dI) classes (fun q : Nat => s.heap.size ≤ q) (((oc8 x (.ref sh) (.ref lw) (.ref ro) (.ref bq) (.ref bp) (.ref dq) (.ref dp) (.ref lv) (.ref sl) (nI dn) (nI bs) ul su) :: (oc10 sl mc9 (.ref ea) (nI T)) :: (oc7 sh (.ref fa) (nI ft)) :: (oq fa cF 200 FA) :: (oc3 lw (.ref dr) (.ref tg) (.ref wy) (.ref br) (.ref bo) (.ref aa)) :: (oc6 dr (.ref dx) (.ref dy) (nI nd) rd) :: (oa dx cI 40 P) :: (oa dy cI 40 Q) :: (oc6 tg (.ref tx) (.ref ty) (nI nt) rt) :: (oa tx cI 3 TX) :: (oa ty cI 3 TY) :: (oc6 wy (.ref wx) (.ref wz) (nI nw) rw) :: (oa wx cI 2 WX) :: (oa wz cI 2 WY) :: (oc0 br b1 b2 b3 b4) :: (oc0 bo b5 b6 b7 b8) :: (oa aa cI 40 AR) :: (oc5 ro (.ref za) (.ref zw) (.ref zx) (.ref zy) (.ref zg) nv) :: (oq za cF 200 RA) :: (oa zw cI 200 WT) :: (oa zx cI 400 EX) :: (oa zy cI 400 EY) :: (oa zg cI 400 GR) :: (oc0 bq c1 c2 c3 c4) :: (oc0 bp a1 a2 a3 a4) :: (oc2 dq y1 y2) :: (oc2 dp y3 y4) :: (oa lv cZ 200 LV) :: (om k0 a (upd I0 26 (nI ln)) J0) :: (oa (a 1) cI 201 kd) :: (oa (a 5) cI 201 st) :: (oa (a 7) cI 201 gb) :: (oa (a 10) cI 201 it) :: (oa (a 8) cI 201 pa) :: (oa (a 9) cI 201 pb) :: (oa (a 2) cI 201 rk) :: (oa (a 3) cI 201 wd) :: (oa (a 4) cI 201 tw) :: (oa (a 6) cZ 201 tn) :: (oa (a 11) cI 201 mn) :: (oa (a 12) cI 8040 cx) :: (oa (a 13) cI 8040 cy) :: (oa (a 27) cI 516 sa) :: (oa (a 28) cI (4096 * cp) shs) :: (oa (a 16) cI 514 wh) :: (oa (a 17) cI 514 of9) :: (oa (a 18) cI 514 we) :: (oa (a 22) cI (64 * cl) la) :: (oa (a 23) cI (64 * cl) lb) :: (oa (a 24) cI (64 * cl) lc) :: (oa (a 25) cI (64 * cl) ld) :: (oa (a 29) cI 42 P0) :: (oa (a 30) cI 42 Q0) :: (oa (a 32) cI 8 S0) :: (oa (a 33) cI 42 ox) :: (oa (a 34) cI 42 oy) :: (oa (a 37) cZ 201 mt) :: (oa (a 38) cZ 201 wi) :: (oa (a 39) cZ 8040 ins) :: (oa (a 40) cI 6 T0) :: (oa (a 43) cZ 40 fl) :: (oa (a 50) cZ 201 mk) :: (oa (a 51) cI 402 jx) :: (oa (a 52) cI 402 jy) :: (oa (a 53) cI 402 gr) :: []) ++ va_pl L f) H) (hS : va_S (fun q : Nat => s.heap.size ≤ q) s.heap H locs) (hl : lv_has ls 4 [(3, .int (nI (6 * k9))), (2, .ref k0), (1, .ref x), (0, .ref b)]) (hB : shB cI cO L f e0 FA ea bs dn T ft FT V VX VY tn rk wd tw pa pb wh of9 we kd st gb it mn cx cy) (hI : INV k9 Sn AD C cc W9 bs T ft cp ln cl FT V VX VY tn rk wd tw pa pb kd st it mn cx cy sa shs lb lc) (hM : I0 0 = nI ft ∧ I0 19 = nI dn ∧ I0 20 = nI (T - dn) ∧ I0 21 = nI bs) (hU : U ≤ Sn * (28 * (AD + C) + 1000) + 200 * (AD + C)) (hf0 : f0 < ft) (hv1 : xs (6 * k9 + 1) = nI f0) (hv2 : xs (6 * k9 + 2) = nI kk) (htn : (tn f0).toInt = 0) (hkk : kk < nN (mn f0)) (hw9 : ¬ (xs (6 * k9 + 3)).toInt = 0 ∧ ¬ (xs (6 * k9 + 3)).toInt = 1) (hnext : ∀ (cp1 cl1 U1 : Nat) (H : Heap) (locs : List Loc) (ls : Array Slot), lawI s dC dI cI cZ cF cO e0 mi x sl sh fa lw dr dx dy tg tx ty wy wx wz br bo aa ro za zw zx zy zg bq bp dq dp lv k0 (k9 + 1) cp1 cl1 U1 H → va_S (fun q : Nat => s.heap.size ≤ q) s.heap H locs → lv_has ls 4 [(3, .int (nI (6 * k9))), (2, .ref k0), (1, .ref x), (0, .ref b)] → W p l e room_1 s m #[Value.ref b] below meth c H locs (1000 + 1010 * (k9 + 1) + cp1 + 4 * cl1) (45000 + 8192 * cp1 + 512 * cl1 + U1) (lw_Z below #[Value.ref b] s) (F0 m 1081 ls [])) : W p l e room_1 s m #[Value.ref b] below meth c H locs (1000 + 1010 * k9 + cp + 4 * cl) (45000 + 8192 * cp + 512 * cl + U) (lw_Z below #[Value.ref b] s) (F0 m 936 ls []) := by
  obtain ⟨hP, hD⟩ := hPD
  obtain ⟨hx, hb, hr, hml, hown, hts1, hX, hbl, hlocks, hgv⟩ := id C0
  have hts : ∀ w9 ∈ ws0, w9.before #[Value.ref b] s = true := fun w9 h => hts1 w9 (List.mem_filter.mp h).1
  have hA : ∀ q : Nat, s.heap.size ≤ q → (fun q : Nat => s.heap.size ≤ q) q := fun _ h => h
  have hbA : ¬ (fun q : Nat => s.heap.size ≤ q) b := Nat.not_le.mpr hbl
  have hXN := hXL.1
  have hK3 := hK.sub [0, 1, 2] rfl
  obtain ⟨hm0, hm19, hm20, hm21⟩ := hM
  have hpo := shB_po hB
  have hK512 : k9 + 1 ≤ 512 := r9_k hk9 hL9
  have hwfS := hI.1.1
  have hbdC := hI.1.2.2.1
  have hT0 := hI.1.2.2.2
  have hd9 := hpo.1
  have h200t : ∀ t, bs ≤ t → t ≤ T → FT t ≤ 200 := fun t t1 t2 => Nat.le_trans (hpo.2.1 t T t1 t2 (Nat.le_refl _)) hd9.2.2.2.2
  have h200f : ft ≤ 200 := (by rw [hd9.2.2.2.1]; exact h200t dn hd9.1 hd9.2.1)
  have hrkA : ∀ q, lvF ft st tn q → 0 ≤ (rk q).toInt ∧ (rk q).toInt ≤ 9 := fun q hq => (hI.1.2.1 q (Nat.lt_of_lt_of_le hq.1 (by rw [hd9.2.2.2.1]; exact hpo.2.1 dn T hd9.1 hd9.2.1 (Nat.le_refl _)))).1
  have hwdA : ∀ q, q < ft → 0 ≤ (wd q).toInt ∧ (wd q).toInt ≤ 100 := fun q hq => (hI.1.2.1 q (Nat.lt_of_lt_of_le hq (by rw [hd9.2.2.2.1]; exact hpo.2.1 dn T hd9.1 hd9.2.1 (Nat.le_refl _)))).2
  have hcp5 := INV_cp hI (Nat.le_of_succ_le hK512)
  have hcp1 := hI.2.2.1.2.1
  have hcnt := hI.2.2.2.1
  have hlst := hI.2.2.2.2
  have hlb := mul_514 (a := Sn) (b := C) (r9_s hcnt.2.1 hK512).2.1
  have hftA := bdC_F hbdC
  have hrm := room_c (Sn := Sn) (AD := AD) (C := C) (c := cp) (cl := cl) (U := U) (r9_s hcnt.2.1 hK512).1 hI.2.2.1.2.2.2.2.2 hlst.2.2.2.1 hU
  have hrc : 1000 + 1010 * k9 + cp + 4 * cl ≤ 600000 := (by omega)
  have hefA : ∀ q, lvF ft st tn q → 1 ≤ eO (kd q).toInt (nN (mn q)) := fun q hq => eO_1 (wfS_kn hwfS q hq)
  have hmn9 : mn f0 = nI (nN (mn f0)) ∧ nN (mn f0) ≤ 40 := (by by_cases t0 : (tn f0).toInt = 0; exact ⟨((hwfS f0 hf0).2.2.1 t0).1.1, ((hwfS f0 hf0).2.2.1 t0).1.2.1⟩; rw [hT0 f0 (by omega) t0]; decide)
  refine la_24_1 l C0 hk9 hL9 hS hl (hv1) (hv2) (rfl) ?_
  obtain ⟨hPc, hDc, hFc⟩ := zt_3 hP hD hS hA
  refine zcalle (va_runV (As := [.int (nI f0), .int (nI kk), .int (xs (6 * k9 + 3))]) (rest := []) ⟨hx, hb, hml, hown, hts⟩ (k_at_a l dC dI cI cZ cF H.size x sh lw ro bq bp dq dp lv sl (nI bs) ul su (nI dn) fa ft FA f0 L f kd st tn mn cx cy rk wd tw pa pb gb it (nI kk) (xs (6 * k9 + 3)) (h200f) (hf0) (shB_va hB)) (csV_271 hts rfl rfl ⟨Nat.le_of_ble_eq_true rfl, Nat.le_of_ble_eq_true rfl⟩) (zPV2 (q0 := 0) (ci := 8) hPc hDc hK3 hXN rfl rfl) rfl rfl hl.1 rfl (lv_room (Nat.le_of_ble_eq_true rfl)) dL_law_952 ⟨hrc, hrm⟩) hS hFc hFc (fun v9 t H locs ht hB hk1 hS => ?_)
  obtain ⟨q_1, rfl, hP1, hD1⟩ := hB
  refine W.eq (g2 := F0 m 955 ls [.int q_1]) rfl ?_
  rw [ht] at hP1
  obtain ⟨hP, hD⟩ := zs_3  hP hD hk1 hFc hP1 hD1
  clear hk1 hPc hDc hFc hP1 hD1 ht
  refine lv_pop hx hb dL_law_955 rfl ?_
  refine la_24_2 l C0 hk9 hL9 hS hl (hv1) (hv2) (rfl) ?_
  obtain ⟨hPc, hDc, hFc⟩ := zt_20 hP hD hS hA
  refine zcall (st1 := [.int (-1)]) (va_runV (As := [.int (nI f0), .int (nI kk), .int (xs (6 * k9 + 3))]) (rest := []) ⟨hx, hb, hml, hown, hts⟩ (k_M_at_d l dC dI cI cZ cF H.size k0 a (upd I0 26 (nI ln)) J0 f0 (nN (mn f0)) kk ft (xs (6 * k9 + 3)) tn mn (hm0) (h200f) (by first | with_reducible assumption | omega) (hmn9.1) (hmn9.2) (htn) (hkk) (hw9)) (csV_272 hts rfl rfl ⟨Nat.le_of_ble_eq_true rfl, Nat.le_of_ble_eq_true rfl⟩) (zPV2 (q0 := 0) (ci := 9) hPc hDc hK3 hXN rfl rfl) rfl rfl hl.1 rfl (lv_room (Nat.le_of_ble_eq_true rfl)) dL_law_972 ⟨hrc, hrm⟩) hS hFc hFc rfl (fun t H locs ht hB hk1 hS => ?_)
  obtain ⟨hP1, hD1⟩ := hB
  rw [ht] at hP1
  obtain ⟨hP, hD⟩ := zs_20  hP hD hk1 hFc hP1 hD1
  clear hk1 hPc hDc hFc hP1 hD1 ht
  refine lv_pop hx hb dL_law_975 rfl ?_
  refine lv_goto (tgt := 1081) hx hb dL_law_976 rfl ?_
  obtain ⟨hP9, hD9⟩ := And.intro hP hD
  refine W.widen (k := 1000 + 1010 * (k9 + 1) + cp + 4 * cl) (n := 45000 + 8192 * cp + 512 * cl + U) (by first | exact wdK | omega) (by first | exact Nat.le_refl _ | omega) ?_
  exact hnext cp cl U H locs ls (lawI_in L f FA ea nd nt nw ul su mc9 rd rt rw P Q TX TY WX WY AR b1 b2 b3 b4 b5 b6 b7 b8 c1 c2 c3 c4 a1 a2 a3 a4 nv RA WT EX EY GR LV y1 y2 y3 y4 a I0 J0 kd st gb it pa pb rk wd tw tn mn cx cy sa shs wh of9 we la lb lc ld P0 Q0 S0 ox oy mt wi ins T0 fl mk jx jy gr bs dn T ft Sn AD C ln FT cc W9 V VX VY hP9 hD9 (hB) (INV_K hI) ⟨hm0, hm19, hm20, hm21⟩ (by first | exact hU | omega)) hS (lv_sub hl [0, 1, 2, 3] rfl)
set_option maxHeartbeats 4000000 in
set_option maxRecDepth 100000 in
theorem lc_told_x {p : Program} {e : Env} {s : State} {m : MethodId} {below : List Frame} {meth : Method} {c : Code} (l : Launch) {b L9 : Nat} {xs : Nat → Int32} (C0 : lw_At p s m meth c b L9 xs) (dC : Nat → ClassId) (dI : Nat → Nat → Nat) (cI cZ cF cO : ClassId) (e0 mi : Nat) (x sl sh fa lw dr dx dy tg tx ty wy wx wz br bo aa ro za zw zx zy zg bq bp dq dp lv k0 : Nat) (hK : va_K (dC, dI) classes (zTyO cI cZ cF cO) s) (hXL : zXL e0 mi (fun q : Nat => s.heap.size ≤ q) s) (L : List Nat) (f : Nat → va_E) (FA : Nat → Option Nat) (ea : Nat) (nd : Nat) (nt : Nat) (nw : Nat) (ul : Int32) (su : Int32) (mc9 : Int32) (rd : Int32) (rt : Int32) (rw : Int32) (P : Nat → Int32) (Q : Nat → Int32) (TX : Nat → Int32) (TY : Nat → Int32) (WX : Nat → Int32) (WY : Nat → Int32) (AR : Nat → Int32) (b1 : Int32) (b2 : Int32) (b3 : Int32) (b4 : Int32) (b5 : Int32) (b6 : Int32) (b7 : Int32) (b8 : Int32) (c1 : Int32) (c2 : Int32) (c3 : Int32) (c4 : Int32) (a1 : Int32) (a2 : Int32) (a3 : Int32) (a4 : Int32) (nv : Int32) (RA : Nat → Option Nat) (WT : Nat → Int32) (EX : Nat → Int32) (EY : Nat → Int32) (GR : Nat → Int32) (LV : Nat → Int32) (y1 : Int64) (y2 : Int64) (y3 : Int64) (y4 : Int64) (a : Nat → Nat) (I0 : Nat → Int32) (J0 : Nat → Int64) (kd : Nat → Int32) (st : Nat → Int32) (gb : Nat → Int32) (it : Nat → Int32) (pa : Nat → Int32) (pb : Nat → Int32) (rk : Nat → Int32) (wd : Nat → Int32) (tw : Nat → Int32) (tn : Nat → Int32) (mn : Nat → Int32) (cx : Nat → Int32) (cy : Nat → Int32) (sa : Nat → Int32) (shs : Nat → Int32) (wh : Nat → Int32) (of9 : Nat → Int32) (we : Nat → Int32) (la : Nat → Int32) (lb : Nat → Int32) (lc : Nat → Int32) (ld : Nat → Int32) (P0 : Nat → Int32) (Q0 : Nat → Int32) (S0 : Nat → Int32) (ox : Nat → Int32) (oy : Nat → Int32) (mt : Nat → Int32) (wi : Nat → Int32) (ins : Nat → Int32) (T0 : Nat → Int32) (fl : Nat → Int32) (mk : Nat → Int32) (jx : Nat → Int32) (jy : Nat → Int32) (gr : Nat → Int32) (bs : Nat) (dn : Nat) (T : Nat) (ft : Nat) (Sn : Nat) (AD : Nat) (C : Nat) (ln : Nat) (FT : Nat → Nat) (cc : Nat → Nat) (W9 : Nat → Nat) (V : Nat → Nat → Nat → Int32) (VX : Nat → Nat → Int32) (VY : Nat → Nat → Int32) (cp cl U k9 : Nat) (hk9 : 6 * k9 + 6 ≤ L9) (hL9 : L9 ≤ 3072) {H : Heap} {locs : List Loc} {ls : Array Slot} (hPD : zPD (dC, dI) classes (fun q : Nat => s.heap.size ≤ q) (((oc8 x (.ref sh) (.ref lw) (.ref ro) (.ref bq) (.ref bp) (.ref dq) (.ref dp) (.ref lv) (.ref sl) (nI dn) (nI bs) ul su) :: (oc10 sl mc9 (.ref ea) (nI T)) :: (oc7 sh (.ref fa) (nI ft)) :: (oq fa cF 200 FA) :: (oc3 lw (.ref dr) (.ref tg) (.ref wy) (.ref br) (.ref bo) (.ref aa)) :: (oc6 dr (.ref dx) (.ref dy) (nI nd) rd) :: (oa dx cI 40 P) :: (oa dy cI 40 Q) :: (oc6 tg (.ref tx) (.ref ty) (nI nt) rt) :: (oa tx cI 3 TX) :: (oa ty cI 3 TY) :: (oc6 wy (.ref wx) (.ref wz) (nI nw) rw) :: (oa wx cI 2 WX) :: (oa wz cI 2 WY) :: (oc0 br b1 b2 b3 b4) :: (oc0 bo b5 b6 b7 b8) :: (oa aa cI 40 AR) :: (oc5 ro (.ref za) (.ref zw) (.ref zx) (.ref zy) (.ref zg) nv) :: (oq za cF 200 RA) :: (oa zw cI 200 WT) :: (oa zx cI 400 EX) :: (oa zy cI 400 EY) :: (oa zg cI 400 GR) :: (oc0 bq c1 c2 c3 c4) :: (oc0 bp a1 a2 a3 a4) :: (oc2 dq y1 y2) :: (oc2 dp y3 y4) :: (oa lv cZ 200 LV) :: (om k0 a (upd I0 26 (nI ln)) J0) :: (oa (a 1) cI 201 kd) :: (oa (a 5) cI 201 st) :: (oa (a 7) cI 201 gb) :: (oa (a 10) cI 201 it) :: (oa (a 8) cI 201 pa) :: (oa (a 9) cI 201 pb) :: (oa (a 2) cI 201 rk) :: (oa (a 3) cI 201 wd) :: (oa (a 4) cI 201 tw) :: (oa (a 6) cZ 201 tn) :: (oa (a 11) cI 201 mn) :: (oa (a 12) cI 8040 cx) :: (oa (a 13) cI 8040 cy) :: (oa (a 27) cI 516 sa) :: (oa (a 28) cI (4096 * cp) shs) :: (oa (a 16) cI 514 wh) :: (oa (a 17) cI 514 of9) :: (oa (a 18) cI 514 we) :: (oa (a 22) cI (64 * cl) la) :: (oa (a 23) cI (64 * cl) lb) :: (oa (a 24) cI (64 * cl) lc) :: (oa (a 25) cI (64 * cl) ld) :: (oa (a 29) cI 42 P0) :: (oa (a 30) cI 42 Q0) :: (oa (a 32) cI 8 S0) :: (oa (a 33) cI 42 ox) :: (oa (a 34) cI 42 oy) :: (oa (a 37) cZ 201 mt) :: (oa (a 38) cZ 201 wi) :: (oa (a 39) cZ 8040 ins) :: (oa (a 40) cI 6 T0) :: (oa (a 43) cZ 40 fl) :: (oa (a 50) cZ 201 mk) :: (oa (a 51) cI 402 jx) :: (oa (a 52) cI 402 jy) :: (oa (a 53) cI 402 gr) :: []) ++ va_pl L f) H) (hS : va_S (fun q : Nat => s.heap.size ≤ q) s.heap H locs) (hl : lv_has ls 4 [(3, .int (nI (6 * k9))), (2, .ref k0), (1, .ref x), (0, .ref b)]) (hB : shB cI cO L f e0 FA ea bs dn T ft FT V VX VY tn rk wd tw pa pb wh of9 we kd st gb it mn cx cy) (hI : INV k9 Sn AD C cc W9 bs T ft cp ln cl FT V VX VY tn rk wd tw pa pb kd st it mn cx cy sa shs lb lc) (hM : I0 0 = nI ft ∧ I0 19 = nI dn ∧ I0 20 = nI (T - dn) ∧ I0 21 = nI bs) (hU : U ≤ Sn * (28 * (AD + C) + 1000) + 200 * (AD + C)) (hbad : ¬ (0 ≤ (xs (6 * k9 + 1)).toInt ∧ (xs (6 * k9 + 1)).toInt < ((ft : Nat) : Int))) (hnext : ∀ (cp1 cl1 U1 : Nat) (H : Heap) (locs : List Loc) (ls : Array Slot), lawI s dC dI cI cZ cF cO e0 mi x sl sh fa lw dr dx dy tg tx ty wy wx wz br bo aa ro za zw zx zy zg bq bp dq dp lv k0 (k9 + 1) cp1 cl1 U1 H → va_S (fun q : Nat => s.heap.size ≤ q) s.heap H locs → lv_has ls 4 [(3, .int (nI (6 * k9))), (2, .ref k0), (1, .ref x), (0, .ref b)] → W p l e room_1 s m #[Value.ref b] below meth c H locs (1000 + 1010 * (k9 + 1) + cp1 + 4 * cl1) (45000 + 8192 * cp1 + 512 * cl1 + U1) (lw_Z below #[Value.ref b] s) (F0 m 1081 ls [])) : W p l e room_1 s m #[Value.ref b] below meth c H locs (1000 + 1010 * k9 + cp + 4 * cl) (45000 + 8192 * cp + 512 * cl + U) (lw_Z below #[Value.ref b] s) (F0 m 979 ls []) := by
  obtain ⟨hP, hD⟩ := hPD
  obtain ⟨hx, hb, hr, hml, hown, hts1, hX, hbl, hlocks, hgv⟩ := id C0
  have hts : ∀ w9 ∈ ws0, w9.before #[Value.ref b] s = true := fun w9 h => hts1 w9 (List.mem_filter.mp h).1
  have hA : ∀ q : Nat, s.heap.size ≤ q → (fun q : Nat => s.heap.size ≤ q) q := fun _ h => h
  have hbA : ¬ (fun q : Nat => s.heap.size ≤ q) b := Nat.not_le.mpr hbl
  have hXN := hXL.1
  have hK3 := hK.sub [0, 1, 2] rfl
  obtain ⟨hm0, hm19, hm20, hm21⟩ := hM
  have hpo := shB_po hB
  have hK512 : k9 + 1 ≤ 512 := r9_k hk9 hL9
  have hwfS := hI.1.1
  have hbdC := hI.1.2.2.1
  have hT0 := hI.1.2.2.2
  have hd9 := hpo.1
  have h200t : ∀ t, bs ≤ t → t ≤ T → FT t ≤ 200 := fun t t1 t2 => Nat.le_trans (hpo.2.1 t T t1 t2 (Nat.le_refl _)) hd9.2.2.2.2
  have h200f : ft ≤ 200 := (by rw [hd9.2.2.2.1]; exact h200t dn hd9.1 hd9.2.1)
  have hrkA : ∀ q, lvF ft st tn q → 0 ≤ (rk q).toInt ∧ (rk q).toInt ≤ 9 := fun q hq => (hI.1.2.1 q (Nat.lt_of_lt_of_le hq.1 (by rw [hd9.2.2.2.1]; exact hpo.2.1 dn T hd9.1 hd9.2.1 (Nat.le_refl _)))).1
  have hwdA : ∀ q, q < ft → 0 ≤ (wd q).toInt ∧ (wd q).toInt ≤ 100 := fun q hq => (hI.1.2.1 q (Nat.lt_of_lt_of_le hq (by rw [hd9.2.2.2.1]; exact hpo.2.1 dn T hd9.1 hd9.2.1 (Nat.le_refl _)))).2
  have hcp5 := INV_cp hI (Nat.le_of_succ_le hK512)
  have hcp1 := hI.2.2.1.2.1
  have hcnt := hI.2.2.2.1
  have hlst := hI.2.2.2.2
  have hlb := mul_514 (a := Sn) (b := C) (r9_s hcnt.2.1 hK512).2.1
  have hftA := bdC_F hbdC
  have hrm := room_c (Sn := Sn) (AD := AD) (C := C) (c := cp) (cl := cl) (U := U) (r9_s hcnt.2.1 hK512).1 hI.2.2.1.2.2.2.2.2 hlst.2.2.2.1 hU
  have hrc : 1000 + 1010 * k9 + cp + 4 * cl ≤ 600000 := (by omega)
  have hefA : ∀ q, lvF ft st tn q → 1 ≤ eO (kd q).toInt (nN (mn q)) := fun q hq => eO_1 (wfS_kn hwfS q hq)
  refine la_25_1 l C0 hk9 hL9 hS hl (rfl) (rfl) ?_
  obtain ⟨hPc, hDc, hFc⟩ := zt_1 hP hD hS hA
  refine zcall (st1 := [.int (-1)]) (va_runV (As := [.int (xs (6 * k9 + 1)), .int (xs (6 * k9 + 2))]) (rest := []) ⟨hx, hb, hml, hown, hts⟩ (k_told_x l dC dI cI cZ cF H.size x sh lw ro bq bp dq dp lv sl (nI bs) ul su (nI dn) fa ft FA (xs (6 * k9 + 1)) (xs (6 * k9 + 2)) (h200f) (hbad)) (csV_273 hts rfl rfl ⟨Nat.le_of_ble_eq_true rfl, Nat.le_of_ble_eq_true rfl⟩) (zPV2 (q0 := 0) (ci := 8) hPc hDc hK3 hXN rfl rfl) rfl rfl hl.1 rfl (lv_room (Nat.le_of_ble_eq_true rfl)) dL_law_990 ⟨hrc, hrm⟩) hS hFc hFc rfl (fun t H locs ht hB hk1 hS => ?_)
  obtain ⟨hP1, hD1⟩ := hB
  rw [ht] at hP1
  obtain ⟨hP, hD⟩ := zs_1  hP hD hk1 hFc hP1 hD1
  clear hk1 hPc hDc hFc hP1 hD1 ht
  refine lv_pop hx hb dL_law_993 rfl ?_
  refine la_25_2 l C0 hk9 hL9 hS hl (rfl) (rfl) ?_
  obtain ⟨hPc, hDc, hFc⟩ := zt_2 hP hD hS hA
  refine zcall (st1 := [.int (-1)]) (va_runV (As := [.int (xs (6 * k9 + 1)), .int (xs (6 * k9 + 2))]) (rest := []) ⟨hx, hb, hml, hown, hts⟩ (k_M_told_x l dC dI cI cZ cF H.size k0 a (upd I0 26 (nI ln)) J0 ft (xs (6 * k9 + 1)) (xs (6 * k9 + 2)) (hm0) (h200f) (hbad)) (csV_274 hts rfl rfl ⟨Nat.le_of_ble_eq_true rfl, Nat.le_of_ble_eq_true rfl⟩) (zPV2 (q0 := 0) (ci := 9) hPc hDc hK3 hXN rfl rfl) rfl rfl hl.1 rfl (lv_room (Nat.le_of_ble_eq_true rfl)) dL_law_1005 ⟨hrc, hrm⟩) hS hFc hFc rfl (fun t H locs ht hB hk1 hS => ?_)
  obtain ⟨hP1, hD1⟩ := hB
  rw [ht] at hP1
  obtain ⟨hP, hD⟩ := zs_2  hP hD hk1 hFc hP1 hD1
  clear hk1 hPc hDc hFc hP1 hD1 ht
  refine lv_pop hx hb dL_law_1008 rfl ?_
  refine lv_goto (tgt := 1081) hx hb dL_law_1009 rfl ?_
  obtain ⟨hP9, hD9⟩ := And.intro hP hD
  refine W.widen (k := 1000 + 1010 * (k9 + 1) + cp + 4 * cl) (n := 45000 + 8192 * cp + 512 * cl + U) (by first | exact wdK | omega) (by first | exact Nat.le_refl _ | omega) ?_
  exact hnext cp cl U H locs ls (lawI_in L f FA ea nd nt nw ul su mc9 rd rt rw P Q TX TY WX WY AR b1 b2 b3 b4 b5 b6 b7 b8 c1 c2 c3 c4 a1 a2 a3 a4 nv RA WT EX EY GR LV y1 y2 y3 y4 a I0 J0 kd st gb it pa pb rk wd tw tn mn cx cy sa shs wh of9 we la lb lc ld P0 Q0 S0 ox oy mt wi ins T0 fl mk jx jy gr bs dn T ft Sn AD C ln FT cc W9 V VX VY hP9 hD9 (hB) (INV_K hI) ⟨hm0, hm19, hm20, hm21⟩ (by first | exact hU | omega)) hS (lv_sub hl [0, 1, 2, 3] rfl)
set_option maxHeartbeats 4000000 in
set_option maxRecDepth 100000 in
theorem lc_told_a {p : Program} {e : Env} {s : State} {m : MethodId} {below : List Frame} {meth : Method} {c : Code} (l : Launch) {b L9 : Nat} {xs : Nat → Int32} (C0 : lw_At p s m meth c b L9 xs) (dC : Nat → ClassId) (dI : Nat → Nat → Nat) (cI cZ cF cO : ClassId) (e0 mi : Nat) (x sl sh fa lw dr dx dy tg tx ty wy wx wz br bo aa ro za zw zx zy zg bq bp dq dp lv k0 : Nat) (hK : va_K (dC, dI) classes (zTyO cI cZ cF cO) s) (hXL : zXL e0 mi (fun q : Nat => s.heap.size ≤ q) s) (L : List Nat) (f : Nat → va_E) (FA : Nat → Option Nat) (ea : Nat) (nd : Nat) (nt : Nat) (nw : Nat) (ul : Int32) (su : Int32) (mc9 : Int32) (rd : Int32) (rt : Int32) (rw : Int32) (P : Nat → Int32) (Q : Nat → Int32) (TX : Nat → Int32) (TY : Nat → Int32) (WX : Nat → Int32) (WY : Nat → Int32) (AR : Nat → Int32) (b1 : Int32) (b2 : Int32) (b3 : Int32) (b4 : Int32) (b5 : Int32) (b6 : Int32) (b7 : Int32) (b8 : Int32) (c1 : Int32) (c2 : Int32) (c3 : Int32) (c4 : Int32) (a1 : Int32) (a2 : Int32) (a3 : Int32) (a4 : Int32) (nv : Int32) (RA : Nat → Option Nat) (WT : Nat → Int32) (EX : Nat → Int32) (EY : Nat → Int32) (GR : Nat → Int32) (LV : Nat → Int32) (y1 : Int64) (y2 : Int64) (y3 : Int64) (y4 : Int64) (a : Nat → Nat) (I0 : Nat → Int32) (J0 : Nat → Int64) (kd : Nat → Int32) (st : Nat → Int32) (gb : Nat → Int32) (it : Nat → Int32) (pa : Nat → Int32) (pb : Nat → Int32) (rk : Nat → Int32) (wd : Nat → Int32) (tw : Nat → Int32) (tn : Nat → Int32) (mn : Nat → Int32) (cx : Nat → Int32) (cy : Nat → Int32) (sa : Nat → Int32) (shs : Nat → Int32) (wh : Nat → Int32) (of9 : Nat → Int32) (we : Nat → Int32) (la : Nat → Int32) (lb : Nat → Int32) (lc : Nat → Int32) (ld : Nat → Int32) (P0 : Nat → Int32) (Q0 : Nat → Int32) (S0 : Nat → Int32) (ox : Nat → Int32) (oy : Nat → Int32) (mt : Nat → Int32) (wi : Nat → Int32) (ins : Nat → Int32) (T0 : Nat → Int32) (fl : Nat → Int32) (mk : Nat → Int32) (jx : Nat → Int32) (jy : Nat → Int32) (gr : Nat → Int32) (bs : Nat) (dn : Nat) (T : Nat) (ft : Nat) (Sn : Nat) (AD : Nat) (C : Nat) (ln : Nat) (FT : Nat → Nat) (cc : Nat → Nat) (W9 : Nat → Nat) (V : Nat → Nat → Nat → Int32) (VX : Nat → Nat → Int32) (VY : Nat → Nat → Int32) (cp cl U k9 : Nat) (hk9 : 6 * k9 + 6 ≤ L9) (hL9 : L9 ≤ 3072) (f0 : Nat) {H : Heap} {locs : List Loc} {ls : Array Slot} (hPD : zPD (dC, dI) classes (fun q : Nat => s.heap.size ≤ q) (((oc8 x (.ref sh) (.ref lw) (.ref ro) (.ref bq) (.ref bp) (.ref dq) (.ref dp) (.ref lv) (.ref sl) (nI dn) (nI bs) ul su) :: (oc10 sl mc9 (.ref ea) (nI T)) :: (oc7 sh (.ref fa) (nI ft)) :: (oq fa cF 200 FA) :: (oc3 lw (.ref dr) (.ref tg) (.ref wy) (.ref br) (.ref bo) (.ref aa)) :: (oc6 dr (.ref dx) (.ref dy) (nI nd) rd) :: (oa dx cI 40 P) :: (oa dy cI 40 Q) :: (oc6 tg (.ref tx) (.ref ty) (nI nt) rt) :: (oa tx cI 3 TX) :: (oa ty cI 3 TY) :: (oc6 wy (.ref wx) (.ref wz) (nI nw) rw) :: (oa wx cI 2 WX) :: (oa wz cI 2 WY) :: (oc0 br b1 b2 b3 b4) :: (oc0 bo b5 b6 b7 b8) :: (oa aa cI 40 AR) :: (oc5 ro (.ref za) (.ref zw) (.ref zx) (.ref zy) (.ref zg) nv) :: (oq za cF 200 RA) :: (oa zw cI 200 WT) :: (oa zx cI 400 EX) :: (oa zy cI 400 EY) :: (oa zg cI 400 GR) :: (oc0 bq c1 c2 c3 c4) :: (oc0 bp a1 a2 a3 a4) :: (oc2 dq y1 y2) :: (oc2 dp y3 y4) :: (oa lv cZ 200 LV) :: (om k0 a (upd I0 26 (nI ln)) J0) :: (oa (a 1) cI 201 kd) :: (oa (a 5) cI 201 st) :: (oa (a 7) cI 201 gb) :: (oa (a 10) cI 201 it) :: (oa (a 8) cI 201 pa) :: (oa (a 9) cI 201 pb) :: (oa (a 2) cI 201 rk) :: (oa (a 3) cI 201 wd) :: (oa (a 4) cI 201 tw) :: (oa (a 6) cZ 201 tn) :: (oa (a 11) cI 201 mn) :: (oa (a 12) cI 8040 cx) :: (oa (a 13) cI 8040 cy) :: (oa (a 27) cI 516 sa) :: (oa (a 28) cI (4096 * cp) shs) :: (oa (a 16) cI 514 wh) :: (oa (a 17) cI 514 of9) :: (oa (a 18) cI 514 we) :: (oa (a 22) cI (64 * cl) la) :: (oa (a 23) cI (64 * cl) lb) :: (oa (a 24) cI (64 * cl) lc) :: (oa (a 25) cI (64 * cl) ld) :: (oa (a 29) cI 42 P0) :: (oa (a 30) cI 42 Q0) :: (oa (a 32) cI 8 S0) :: (oa (a 33) cI 42 ox) :: (oa (a 34) cI 42 oy) :: (oa (a 37) cZ 201 mt) :: (oa (a 38) cZ 201 wi) :: (oa (a 39) cZ 8040 ins) :: (oa (a 40) cI 6 T0) :: (oa (a 43) cZ 40 fl) :: (oa (a 50) cZ 201 mk) :: (oa (a 51) cI 402 jx) :: (oa (a 52) cI 402 jy) :: (oa (a 53) cI 402 gr) :: []) ++ va_pl L f) H) (hS : va_S (fun q : Nat => s.heap.size ≤ q) s.heap H locs) (hl : lv_has ls 4 [(3, .int (nI (6 * k9))), (2, .ref k0), (1, .ref x), (0, .ref b)]) (hB : shB cI cO L f e0 FA ea bs dn T ft FT V VX VY tn rk wd tw pa pb wh of9 we kd st gb it mn cx cy) (hI : INV k9 Sn AD C cc W9 bs T ft cp ln cl FT V VX VY tn rk wd tw pa pb kd st it mn cx cy sa shs lb lc) (hM : I0 0 = nI ft ∧ I0 19 = nI dn ∧ I0 20 = nI (T - dn) ∧ I0 21 = nI bs) (hU : U ≤ Sn * (28 * (AD + C) + 1000) + 200 * (AD + C)) (hf0 : f0 < ft) (hv1 : xs (6 * k9 + 1) = nI f0) (hnext : ∀ (cp1 cl1 U1 : Nat) (H : Heap) (locs : List Loc) (ls : Array Slot), lawI s dC dI cI cZ cF cO e0 mi x sl sh fa lw dr dx dy tg tx ty wy wx wz br bo aa ro za zw zx zy zg bq bp dq dp lv k0 (k9 + 1) cp1 cl1 U1 H → va_S (fun q : Nat => s.heap.size ≤ q) s.heap H locs → lv_has ls 4 [(3, .int (nI (6 * k9))), (2, .ref k0), (1, .ref x), (0, .ref b)] → W p l e room_1 s m #[Value.ref b] below meth c H locs (1000 + 1010 * (k9 + 1) + cp1 + 4 * cl1) (45000 + 8192 * cp1 + 512 * cl1 + U1) (lw_Z below #[Value.ref b] s) (F0 m 1081 ls [])) : W p l e room_1 s m #[Value.ref b] below meth c H locs (1000 + 1010 * k9 + cp + 4 * cl) (45000 + 8192 * cp + 512 * cl + U) (lw_Z below #[Value.ref b] s) (F0 m 979 ls []) := by
  obtain ⟨hP, hD⟩ := hPD
  obtain ⟨hx, hb, hr, hml, hown, hts1, hX, hbl, hlocks, hgv⟩ := id C0
  have hts : ∀ w9 ∈ ws0, w9.before #[Value.ref b] s = true := fun w9 h => hts1 w9 (List.mem_filter.mp h).1
  have hA : ∀ q : Nat, s.heap.size ≤ q → (fun q : Nat => s.heap.size ≤ q) q := fun _ h => h
  have hbA : ¬ (fun q : Nat => s.heap.size ≤ q) b := Nat.not_le.mpr hbl
  have hXN := hXL.1
  have hK3 := hK.sub [0, 1, 2] rfl
  obtain ⟨hm0, hm19, hm20, hm21⟩ := hM
  have hpo := shB_po hB
  have hK512 : k9 + 1 ≤ 512 := r9_k hk9 hL9
  have hwfS := hI.1.1
  have hbdC := hI.1.2.2.1
  have hT0 := hI.1.2.2.2
  have hd9 := hpo.1
  have h200t : ∀ t, bs ≤ t → t ≤ T → FT t ≤ 200 := fun t t1 t2 => Nat.le_trans (hpo.2.1 t T t1 t2 (Nat.le_refl _)) hd9.2.2.2.2
  have h200f : ft ≤ 200 := (by rw [hd9.2.2.2.1]; exact h200t dn hd9.1 hd9.2.1)
  have hrkA : ∀ q, lvF ft st tn q → 0 ≤ (rk q).toInt ∧ (rk q).toInt ≤ 9 := fun q hq => (hI.1.2.1 q (Nat.lt_of_lt_of_le hq.1 (by rw [hd9.2.2.2.1]; exact hpo.2.1 dn T hd9.1 hd9.2.1 (Nat.le_refl _)))).1
  have hwdA : ∀ q, q < ft → 0 ≤ (wd q).toInt ∧ (wd q).toInt ≤ 100 := fun q hq => (hI.1.2.1 q (Nat.lt_of_lt_of_le hq (by rw [hd9.2.2.2.1]; exact hpo.2.1 dn T hd9.1 hd9.2.1 (Nat.le_refl _)))).2
  have hcp5 := INV_cp hI (Nat.le_of_succ_le hK512)
  have hcp1 := hI.2.2.1.2.1
  have hcnt := hI.2.2.2.1
  have hlst := hI.2.2.2.2
  have hlb := mul_514 (a := Sn) (b := C) (r9_s hcnt.2.1 hK512).2.1
  have hftA := bdC_F hbdC
  have hrm := room_c (Sn := Sn) (AD := AD) (C := C) (c := cp) (cl := cl) (U := U) (r9_s hcnt.2.1 hK512).1 hI.2.2.1.2.2.2.2.2 hlst.2.2.2.1 hU
  have hrc : 1000 + 1010 * k9 + cp + 4 * cl ≤ 600000 := (by omega)
  have hefA : ∀ q, lvF ft st tn q → 1 ≤ eO (kd q).toInt (nN (mn q)) := fun q hq => eO_1 (wfS_kn hwfS q hq)
  refine la_25_1 l C0 hk9 hL9 hS hl (hv1) (rfl) ?_
  obtain ⟨hPc, hDc, hFc⟩ := zt_3 hP hD hS hA
  refine zcalle (va_runV (As := [.int (nI f0), .int (xs (6 * k9 + 2))]) (rest := []) ⟨hx, hb, hml, hown, hts⟩ (k_told_a l dC dI cI cZ cF H.size x sh lw ro bq bp dq dp lv sl (nI bs) ul su (nI dn) fa ft FA f0 L f kd st tn mn cx cy rk wd tw pa pb gb it (xs (6 * k9 + 2)) (h200f) (hf0) (shB_va hB)) (csV_273 hts rfl rfl ⟨Nat.le_of_ble_eq_true rfl, Nat.le_of_ble_eq_true rfl⟩) (zPV2 (q0 := 0) (ci := 8) hPc hDc hK3 hXN rfl rfl) rfl rfl hl.1 rfl (lv_room (Nat.le_of_ble_eq_true rfl)) dL_law_990 ⟨hrc, hrm⟩) hS hFc hFc (fun v9 t H locs ht hB hk1 hS => ?_)
  obtain ⟨q_1, rfl, hP1, hD1⟩ := hB
  refine W.eq (g2 := F0 m 993 ls [.int q_1]) rfl ?_
  rw [ht] at hP1
  obtain ⟨hP, hD⟩ := zs_3  hP hD hk1 hFc hP1 hD1
  clear hk1 hPc hDc hFc hP1 hD1 ht
  refine lv_pop hx hb dL_law_993 rfl ?_
  refine la_25_2 l C0 hk9 hL9 hS hl (hv1) (rfl) ?_
  obtain ⟨hPc, hDc, hFc⟩ := zo_sub (wc := [_, _, _, _, _, _, _, _, _, _, _, _]) hP hD hS hA [28, 29, 35, 36, 37, 39, 30, 38, 31, 33, 34, 32] (by decide +kernel) rfl
  refine zcalle (va_runV (As := [.int (nI f0), .int (xs (6 * k9 + 2))]) (rest := []) ⟨hx, hb, hml, hown, hts⟩ (k_M_told_a l dC dI cI cZ cF H.size k0 a (upd I0 26 (nI ln)) J0 f0 ft (xs (6 * k9 + 2)) kd rk wd tw mn st tn gb pa pb it (hm0) (h200f) (by first | with_reducible assumption | omega)) (csV_274 hts rfl rfl ⟨Nat.le_of_ble_eq_true rfl, Nat.le_of_ble_eq_true rfl⟩) (zPV2 (q0 := 0) (ci := 9) hPc hDc hK3 hXN rfl rfl) rfl rfl hl.1 rfl (lv_room (Nat.le_of_ble_eq_true rfl)) dL_law_1005 ⟨hrc, hrm⟩) hS hFc hFc (fun v9 t H locs ht hB hk1 hS => ?_)
  obtain ⟨q_2, rfl, hP1, hD1⟩ := hB
  refine W.eq (g2 := F0 m 1008 ls [.int q_2]) rfl ?_
  rw [ht] at hP1
  obtain ⟨hP, hD⟩ := znQ (W2 := (_ :: _ :: _ :: _ :: _ :: _ :: _ :: _ :: _ :: _ :: _ :: _ :: _ :: _ :: _ :: _ :: _ :: _ :: _ :: _ :: _ :: _ :: _ :: _ :: _ :: _ :: _ :: _ :: _ :: _ :: _ :: _ :: _ :: _ :: _ :: _ :: _ :: _ :: _ :: _ :: _ :: _ :: _ :: _ :: _ :: _ :: _ :: _ :: _ :: _ :: _ :: _ :: _ :: _ :: _ :: _ :: _ :: _ :: _ :: _ :: _ :: _ :: _ :: _ :: _ :: [])) hP hD hk1 hFc hP1 hD1 zl_311 zl_312 zl_312 zl_311 (by decide +kernel) rfl rfl rfl rfl rfl
  clear hk1 hPc hDc hFc hP1 hD1 ht
  refine lv_pop hx hb dL_law_1008 rfl ?_
  refine lv_goto (tgt := 1081) hx hb dL_law_1009 rfl ?_
  obtain ⟨hP9, hD9⟩ := And.intro hP hD
  refine W.widen (k := 1000 + 1010 * (k9 + 1) + cp + 4 * cl) (n := 45000 + 8192 * cp + 512 * cl + U) (by first | exact wdK | omega) (by first | exact Nat.le_refl _ | omega) ?_
  exact hnext cp cl U H locs ls (lawI_in L f FA ea nd nt nw ul su mc9 rd rt rw P Q TX TY WX WY AR b1 b2 b3 b4 b5 b6 b7 b8 c1 c2 c3 c4 a1 a2 a3 a4 nv RA WT EX EY GR LV y1 y2 y3 y4 a I0 J0 kd st gb it pa pb rk wd tw tn mn cx cy sa shs wh of9 we la lb lc ld P0 Q0 S0 ox oy mt wi ins T0 fl mk jx jy gr bs dn T ft Sn AD C ln FT cc W9 V VX VY hP9 hD9 (hB) (INV_K hI) ⟨hm0, hm19, hm20, hm21⟩ (by first | exact hU | omega)) hS (lv_sub hl [0, 1, 2, 3] rfl)
set_option maxHeartbeats 4000000 in
set_option maxRecDepth 100000 in
theorem lc_meets_x1 {p : Program} {e : Env} {s : State} {m : MethodId} {below : List Frame} {meth : Method} {c : Code} (l : Launch) {b L9 : Nat} {xs : Nat → Int32} (C0 : lw_At p s m meth c b L9 xs) (dC : Nat → ClassId) (dI : Nat → Nat → Nat) (cI cZ cF cO : ClassId) (e0 mi : Nat) (x sl sh fa lw dr dx dy tg tx ty wy wx wz br bo aa ro za zw zx zy zg bq bp dq dp lv k0 : Nat) (hK : va_K (dC, dI) classes (zTyO cI cZ cF cO) s) (hXL : zXL e0 mi (fun q : Nat => s.heap.size ≤ q) s) (L : List Nat) (f : Nat → va_E) (FA : Nat → Option Nat) (ea : Nat) (nd : Nat) (nt : Nat) (nw : Nat) (ul : Int32) (su : Int32) (mc9 : Int32) (rd : Int32) (rt : Int32) (rw : Int32) (P : Nat → Int32) (Q : Nat → Int32) (TX : Nat → Int32) (TY : Nat → Int32) (WX : Nat → Int32) (WY : Nat → Int32) (AR : Nat → Int32) (b1 : Int32) (b2 : Int32) (b3 : Int32) (b4 : Int32) (b5 : Int32) (b6 : Int32) (b7 : Int32) (b8 : Int32) (c1 : Int32) (c2 : Int32) (c3 : Int32) (c4 : Int32) (a1 : Int32) (a2 : Int32) (a3 : Int32) (a4 : Int32) (nv : Int32) (RA : Nat → Option Nat) (WT : Nat → Int32) (EX : Nat → Int32) (EY : Nat → Int32) (GR : Nat → Int32) (LV : Nat → Int32) (y1 : Int64) (y2 : Int64) (y3 : Int64) (y4 : Int64) (a : Nat → Nat) (I0 : Nat → Int32) (J0 : Nat → Int64) (kd : Nat → Int32) (st : Nat → Int32) (gb : Nat → Int32) (it : Nat → Int32) (pa : Nat → Int32) (pb : Nat → Int32) (rk : Nat → Int32) (wd : Nat → Int32) (tw : Nat → Int32) (tn : Nat → Int32) (mn : Nat → Int32) (cx : Nat → Int32) (cy : Nat → Int32) (sa : Nat → Int32) (shs : Nat → Int32) (wh : Nat → Int32) (of9 : Nat → Int32) (we : Nat → Int32) (la : Nat → Int32) (lb : Nat → Int32) (lc : Nat → Int32) (ld : Nat → Int32) (P0 : Nat → Int32) (Q0 : Nat → Int32) (S0 : Nat → Int32) (ox : Nat → Int32) (oy : Nat → Int32) (mt : Nat → Int32) (wi : Nat → Int32) (ins : Nat → Int32) (T0 : Nat → Int32) (fl : Nat → Int32) (mk : Nat → Int32) (jx : Nat → Int32) (jy : Nat → Int32) (gr : Nat → Int32) (bs : Nat) (dn : Nat) (T : Nat) (ft : Nat) (Sn : Nat) (AD : Nat) (C : Nat) (ln : Nat) (FT : Nat → Nat) (cc : Nat → Nat) (W9 : Nat → Nat) (V : Nat → Nat → Nat → Int32) (VX : Nat → Nat → Int32) (VY : Nat → Nat → Int32) (cp cl U k9 : Nat) (hk9 : 6 * k9 + 6 ≤ L9) (hL9 : L9 ≤ 3072) {H : Heap} {locs : List Loc} {ls : Array Slot} (hPD : zPD (dC, dI) classes (fun q : Nat => s.heap.size ≤ q) (((oc8 x (.ref sh) (.ref lw) (.ref ro) (.ref bq) (.ref bp) (.ref dq) (.ref dp) (.ref lv) (.ref sl) (nI dn) (nI bs) ul su) :: (oc10 sl mc9 (.ref ea) (nI T)) :: (oc7 sh (.ref fa) (nI ft)) :: (oq fa cF 200 FA) :: (oc3 lw (.ref dr) (.ref tg) (.ref wy) (.ref br) (.ref bo) (.ref aa)) :: (oc6 dr (.ref dx) (.ref dy) (nI nd) rd) :: (oa dx cI 40 P) :: (oa dy cI 40 Q) :: (oc6 tg (.ref tx) (.ref ty) (nI nt) rt) :: (oa tx cI 3 TX) :: (oa ty cI 3 TY) :: (oc6 wy (.ref wx) (.ref wz) (nI nw) rw) :: (oa wx cI 2 WX) :: (oa wz cI 2 WY) :: (oc0 br b1 b2 b3 b4) :: (oc0 bo b5 b6 b7 b8) :: (oa aa cI 40 AR) :: (oc5 ro (.ref za) (.ref zw) (.ref zx) (.ref zy) (.ref zg) nv) :: (oq za cF 200 RA) :: (oa zw cI 200 WT) :: (oa zx cI 400 EX) :: (oa zy cI 400 EY) :: (oa zg cI 400 GR) :: (oc0 bq c1 c2 c3 c4) :: (oc0 bp a1 a2 a3 a4) :: (oc2 dq y1 y2) :: (oc2 dp y3 y4) :: (oa lv cZ 200 LV) :: (om k0 a (upd I0 26 (nI ln)) J0) :: (oa (a 1) cI 201 kd) :: (oa (a 5) cI 201 st) :: (oa (a 7) cI 201 gb) :: (oa (a 10) cI 201 it) :: (oa (a 8) cI 201 pa) :: (oa (a 9) cI 201 pb) :: (oa (a 2) cI 201 rk) :: (oa (a 3) cI 201 wd) :: (oa (a 4) cI 201 tw) :: (oa (a 6) cZ 201 tn) :: (oa (a 11) cI 201 mn) :: (oa (a 12) cI 8040 cx) :: (oa (a 13) cI 8040 cy) :: (oa (a 27) cI 516 sa) :: (oa (a 28) cI (4096 * cp) shs) :: (oa (a 16) cI 514 wh) :: (oa (a 17) cI 514 of9) :: (oa (a 18) cI 514 we) :: (oa (a 22) cI (64 * cl) la) :: (oa (a 23) cI (64 * cl) lb) :: (oa (a 24) cI (64 * cl) lc) :: (oa (a 25) cI (64 * cl) ld) :: (oa (a 29) cI 42 P0) :: (oa (a 30) cI 42 Q0) :: (oa (a 32) cI 8 S0) :: (oa (a 33) cI 42 ox) :: (oa (a 34) cI 42 oy) :: (oa (a 37) cZ 201 mt) :: (oa (a 38) cZ 201 wi) :: (oa (a 39) cZ 8040 ins) :: (oa (a 40) cI 6 T0) :: (oa (a 43) cZ 40 fl) :: (oa (a 50) cZ 201 mk) :: (oa (a 51) cI 402 jx) :: (oa (a 52) cI 402 jy) :: (oa (a 53) cI 402 gr) :: []) ++ va_pl L f) H) (hS : va_S (fun q : Nat => s.heap.size ≤ q) s.heap H locs) (hl : lv_has ls 4 [(3, .int (nI (6 * k9))), (2, .ref k0), (1, .ref x), (0, .ref b)]) (hB : shB cI cO L f e0 FA ea bs dn T ft FT V VX VY tn rk wd tw pa pb wh of9 we kd st gb it mn cx cy) (hI : INV k9 Sn AD C cc W9 bs T ft cp ln cl FT V VX VY tn rk wd tw pa pb kd st it mn cx cy sa shs lb lc) (hM : I0 0 = nI ft ∧ I0 19 = nI dn ∧ I0 20 = nI (T - dn) ∧ I0 21 = nI bs) (hU : U ≤ Sn * (28 * (AD + C) + 1000) + 200 * (AD + C)) (hbad : ¬ (0 ≤ (xs (6 * k9 + 1)).toInt ∧ (xs (6 * k9 + 1)).toInt < ((ft : Nat) : Int))) (hnext : ∀ (cp1 cl1 U1 : Nat) (H : Heap) (locs : List Loc) (ls : Array Slot), lawI s dC dI cI cZ cF cO e0 mi x sl sh fa lw dr dx dy tg tx ty wy wx wz br bo aa ro za zw zx zy zg bq bp dq dp lv k0 (k9 + 1) cp1 cl1 U1 H → va_S (fun q : Nat => s.heap.size ≤ q) s.heap H locs → lv_has ls 4 [(3, .int (nI (6 * k9))), (2, .ref k0), (1, .ref x), (0, .ref b)] → W p l e room_1 s m #[Value.ref b] below meth c H locs (1000 + 1010 * (k9 + 1) + cp1 + 4 * cl1) (45000 + 8192 * cp1 + 512 * cl1 + U1) (lw_Z below #[Value.ref b] s) (F0 m 1081 ls [])) : W p l e room_1 s m #[Value.ref b] below meth c H locs (1000 + 1010 * k9 + cp + 4 * cl) (45000 + 8192 * cp + 512 * cl + U) (lw_Z below #[Value.ref b] s) (F0 m 642 ls []) := by
  obtain ⟨hP, hD⟩ := hPD
  obtain ⟨hx, hb, hr, hml, hown, hts1, hX, hbl, hlocks, hgv⟩ := id C0
  have hts : ∀ w9 ∈ ws0, w9.before #[Value.ref b] s = true := fun w9 h => hts1 w9 (List.mem_filter.mp h).1
  have hA : ∀ q : Nat, s.heap.size ≤ q → (fun q : Nat => s.heap.size ≤ q) q := fun _ h => h
  have hbA : ¬ (fun q : Nat => s.heap.size ≤ q) b := Nat.not_le.mpr hbl
  have hXN := hXL.1
  have hK3 := hK.sub [0, 1, 2] rfl
  obtain ⟨hm0, hm19, hm20, hm21⟩ := hM
  have hpo := shB_po hB
  have hK512 : k9 + 1 ≤ 512 := r9_k hk9 hL9
  have hwfS := hI.1.1
  have hbdC := hI.1.2.2.1
  have hT0 := hI.1.2.2.2
  have hd9 := hpo.1
  have h200t : ∀ t, bs ≤ t → t ≤ T → FT t ≤ 200 := fun t t1 t2 => Nat.le_trans (hpo.2.1 t T t1 t2 (Nat.le_refl _)) hd9.2.2.2.2
  have h200f : ft ≤ 200 := (by rw [hd9.2.2.2.1]; exact h200t dn hd9.1 hd9.2.1)
  have hrkA : ∀ q, lvF ft st tn q → 0 ≤ (rk q).toInt ∧ (rk q).toInt ≤ 9 := fun q hq => (hI.1.2.1 q (Nat.lt_of_lt_of_le hq.1 (by rw [hd9.2.2.2.1]; exact hpo.2.1 dn T hd9.1 hd9.2.1 (Nat.le_refl _)))).1
  have hwdA : ∀ q, q < ft → 0 ≤ (wd q).toInt ∧ (wd q).toInt ≤ 100 := fun q hq => (hI.1.2.1 q (Nat.lt_of_lt_of_le hq (by rw [hd9.2.2.2.1]; exact hpo.2.1 dn T hd9.1 hd9.2.1 (Nat.le_refl _)))).2
  have hcp5 := INV_cp hI (Nat.le_of_succ_le hK512)
  have hcp1 := hI.2.2.1.2.1
  have hcnt := hI.2.2.2.1
  have hlst := hI.2.2.2.2
  have hlb := mul_514 (a := Sn) (b := C) (r9_s hcnt.2.1 hK512).2.1
  have hftA := bdC_F hbdC
  have hrm := room_c (Sn := Sn) (AD := AD) (C := C) (c := cp) (cl := cl) (U := U) (r9_s hcnt.2.1 hK512).1 hI.2.2.1.2.2.2.2.2 hlst.2.2.2.1 hU
  have hrc : 1000 + 1010 * k9 + cp + 4 * cl ≤ 600000 := (by omega)
  have hefA : ∀ q, lvF ft st tn q → 1 ≤ eO (kd q).toInt (nN (mn q)) := fun q hq => eO_1 (wfS_kn hwfS q hq)
  refine la_16_1 l C0 hk9 hL9 hS hl (rfl) (rfl) ?_
  obtain ⟨hPc, hDc, hFc⟩ := zt_3 hP hD hS hA
  refine zcall (st1 := [.int 0]) (va_runV (As := [.int (xs (6 * k9 + 1)), .int (xs (6 * k9 + 2))]) (rest := []) ⟨hx, hb, hml, hown, hts⟩ (k_meets_z l dC dI cI cZ cF H.size x sh lw ro bq bp dq dp lv sl (nI bs) ul su (nI dn) fa ft FA L f kd st tn mn cx cy rk wd tw pa pb gb it (xs (6 * k9 + 1)) (xs (6 * k9 + 2)) (h200f) (shB_va hB) (fun ⟨⟨g, e, hg⟩, _⟩ => nI_bad h200f hbad hg.1 e)) (csV_275 hts rfl rfl ⟨Nat.le_of_ble_eq_true rfl, Nat.le_of_ble_eq_true rfl⟩) (zPV2 (q0 := 0) (ci := 8) hPc hDc hK3 hXN rfl rfl) rfl rfl hl.1 rfl (lv_room (Nat.le_of_ble_eq_true rfl)) dL_law_653 ⟨hrc, hrm⟩) hS hFc hFc rfl (fun t H locs ht hB hk1 hS => ?_)
  obtain ⟨hP1, hD1⟩ := hB
  rw [ht] at hP1
  obtain ⟨hP, hD⟩ := zs_3  hP hD hk1 hFc hP1 hD1
  clear hk1 hPc hDc hFc hP1 hD1 ht
  refine lv_pop hx hb dL_law_656 rfl ?_
  refine la_16_2 l C0 hk9 hL9 hS hl (rfl) (rfl) ?_
  obtain ⟨hPc, hDc, hFc⟩ := zt_2 hP hD hS hA
  refine zcall (st1 := [.int 0]) (va_runV (As := [.int (xs (6 * k9 + 1)), .int (xs (6 * k9 + 2))]) (rest := []) ⟨hx, hb, hml, hown, hts⟩ (k_M_meets_x1 l dC dI cI cZ cF H.size k0 a (upd I0 26 (nI ln)) J0 ft (xs (6 * k9 + 1)) (xs (6 * k9 + 2)) (hm0) (h200f) (hbad)) (csV_276 hts rfl rfl ⟨Nat.le_of_ble_eq_true rfl, Nat.le_of_ble_eq_true rfl⟩) (zPV2 (q0 := 0) (ci := 9) hPc hDc hK3 hXN rfl rfl) rfl rfl hl.1 rfl (lv_room (Nat.le_of_ble_eq_true rfl)) dL_law_668 ⟨hrc, hrm⟩) hS hFc hFc rfl (fun t H locs ht hB hk1 hS => ?_)
  obtain ⟨hP1, hD1⟩ := hB
  rw [ht] at hP1
  obtain ⟨hP, hD⟩ := zs_2  hP hD hk1 hFc hP1 hD1
  clear hk1 hPc hDc hFc hP1 hD1 ht
  refine lv_pop hx hb dL_law_671 rfl ?_
  refine lv_goto (tgt := 1081) hx hb dL_law_672 rfl ?_
  obtain ⟨hP9, hD9⟩ := And.intro hP hD
  refine W.widen (k := 1000 + 1010 * (k9 + 1) + cp + 4 * cl) (n := 45000 + 8192 * cp + 512 * cl + U) (by first | exact wdK | omega) (by first | exact Nat.le_refl _ | omega) ?_
  exact hnext cp cl U H locs ls (lawI_in L f FA ea nd nt nw ul su mc9 rd rt rw P Q TX TY WX WY AR b1 b2 b3 b4 b5 b6 b7 b8 c1 c2 c3 c4 a1 a2 a3 a4 nv RA WT EX EY GR LV y1 y2 y3 y4 a I0 J0 kd st gb it pa pb rk wd tw tn mn cx cy sa shs wh of9 we la lb lc ld P0 Q0 S0 ox oy mt wi ins T0 fl mk jx jy gr bs dn T ft Sn AD C ln FT cc W9 V VX VY hP9 hD9 (hB) (INV_K hI) ⟨hm0, hm19, hm20, hm21⟩ (by first | exact hU | omega)) hS (lv_sub hl [0, 1, 2, 3] rfl)
end
section
set_option maxHeartbeats 4000000 in
set_option maxRecDepth 100000 in
theorem lc_meets_x2 {p : Program} {e : Env} {s : State} {m : MethodId} {below : List Frame} {meth : Method} {c : Code} (l : Launch) {b L9 : Nat} {xs : Nat → Int32} (C0 : lw_At p s m meth c b L9 xs) (dC : Nat → ClassId) (dI : Nat → Nat → Nat) (cI cZ cF cO : ClassId) (e0 mi : Nat) (x sl sh fa lw dr dx dy tg tx ty wy wx wz br bo aa ro za zw zx zy zg bq bp dq dp lv k0 : Nat) (hK : va_K (dC, dI) classes (zTyO cI cZ cF cO) s) (hXL : zXL e0 mi (fun q : Nat => s.heap.size ≤ q) s) (L : List Nat) (f : Nat → va_E) (FA : Nat → Option Nat) (ea : Nat) (nd : Nat) (nt : Nat) (nw : Nat) (ul : Int32) (su : Int32) (mc9 : Int32) (rd : Int32) (rt : Int32) (rw : Int32) (P : Nat → Int32) (Q : Nat → Int32) (TX : Nat → Int32) (TY : Nat → Int32) (WX : Nat → Int32) (WY : Nat → Int32) (AR : Nat → Int32) (b1 : Int32) (b2 : Int32) (b3 : Int32) (b4 : Int32) (b5 : Int32) (b6 : Int32) (b7 : Int32) (b8 : Int32) (c1 : Int32) (c2 : Int32) (c3 : Int32) (c4 : Int32) (a1 : Int32) (a2 : Int32) (a3 : Int32) (a4 : Int32) (nv : Int32) (RA : Nat → Option Nat) (WT : Nat → Int32) (EX : Nat → Int32) (EY : Nat → Int32) (GR : Nat → Int32) (LV : Nat → Int32) (y1 : Int64) (y2 : Int64) (y3 : Int64) (y4 : Int64) (a : Nat → Nat) (I0 : Nat → Int32) (J0 : Nat → Int64) (kd : Nat → Int32) (st : Nat → Int32) (gb : Nat → Int32) (it : Nat → Int32) (pa : Nat → Int32) (pb : Nat → Int32) (rk : Nat → Int32) (wd : Nat → Int32) (tw : Nat → Int32) (tn : Nat → Int32) (mn : Nat → Int32) (cx : Nat → Int32) (cy : Nat → Int32) (sa : Nat → Int32) (shs : Nat → Int32) (wh : Nat → Int32) (of9 : Nat → Int32) (we : Nat → Int32) (la : Nat → Int32) (lb : Nat → Int32) (lc : Nat → Int32) (ld : Nat → Int32) (P0 : Nat → Int32) (Q0 : Nat → Int32) (S0 : Nat → Int32) (ox : Nat → Int32) (oy : Nat → Int32) (mt : Nat → Int32) (wi : Nat → Int32) (ins : Nat → Int32) (T0 : Nat → Int32) (fl : Nat → Int32) (mk : Nat → Int32) (jx : Nat → Int32) (jy : Nat → Int32) (gr : Nat → Int32) (bs : Nat) (dn : Nat) (T : Nat) (ft : Nat) (Sn : Nat) (AD : Nat) (C : Nat) (ln : Nat) (FT : Nat → Nat) (cc : Nat → Nat) (W9 : Nat → Nat) (V : Nat → Nat → Nat → Int32) (VX : Nat → Nat → Int32) (VY : Nat → Nat → Int32) (cp cl U k9 : Nat) (hk9 : 6 * k9 + 6 ≤ L9) (hL9 : L9 ≤ 3072) (f0 : Nat) {H : Heap} {locs : List Loc} {ls : Array Slot} (hPD : zPD (dC, dI) classes (fun q : Nat => s.heap.size ≤ q) (((oc8 x (.ref sh) (.ref lw) (.ref ro) (.ref bq) (.ref bp) (.ref dq) (.ref dp) (.ref lv) (.ref sl) (nI dn) (nI bs) ul su) :: (oc10 sl mc9 (.ref ea) (nI T)) :: (oc7 sh (.ref fa) (nI ft)) :: (oq fa cF 200 FA) :: (oc3 lw (.ref dr) (.ref tg) (.ref wy) (.ref br) (.ref bo) (.ref aa)) :: (oc6 dr (.ref dx) (.ref dy) (nI nd) rd) :: (oa dx cI 40 P) :: (oa dy cI 40 Q) :: (oc6 tg (.ref tx) (.ref ty) (nI nt) rt) :: (oa tx cI 3 TX) :: (oa ty cI 3 TY) :: (oc6 wy (.ref wx) (.ref wz) (nI nw) rw) :: (oa wx cI 2 WX) :: (oa wz cI 2 WY) :: (oc0 br b1 b2 b3 b4) :: (oc0 bo b5 b6 b7 b8) :: (oa aa cI 40 AR) :: (oc5 ro (.ref za) (.ref zw) (.ref zx) (.ref zy) (.ref zg) nv) :: (oq za cF 200 RA) :: (oa zw cI 200 WT) :: (oa zx cI 400 EX) :: (oa zy cI 400 EY) :: (oa zg cI 400 GR) :: (oc0 bq c1 c2 c3 c4) :: (oc0 bp a1 a2 a3 a4) :: (oc2 dq y1 y2) :: (oc2 dp y3 y4) :: (oa lv cZ 200 LV) :: (om k0 a (upd I0 26 (nI ln)) J0) :: (oa (a 1) cI 201 kd) :: (oa (a 5) cI 201 st) :: (oa (a 7) cI 201 gb) :: (oa (a 10) cI 201 it) :: (oa (a 8) cI 201 pa) :: (oa (a 9) cI 201 pb) :: (oa (a 2) cI 201 rk) :: (oa (a 3) cI 201 wd) :: (oa (a 4) cI 201 tw) :: (oa (a 6) cZ 201 tn) :: (oa (a 11) cI 201 mn) :: (oa (a 12) cI 8040 cx) :: (oa (a 13) cI 8040 cy) :: (oa (a 27) cI 516 sa) :: (oa (a 28) cI (4096 * cp) shs) :: (oa (a 16) cI 514 wh) :: (oa (a 17) cI 514 of9) :: (oa (a 18) cI 514 we) :: (oa (a 22) cI (64 * cl) la) :: (oa (a 23) cI (64 * cl) lb) :: (oa (a 24) cI (64 * cl) lc) :: (oa (a 25) cI (64 * cl) ld) :: (oa (a 29) cI 42 P0) :: (oa (a 30) cI 42 Q0) :: (oa (a 32) cI 8 S0) :: (oa (a 33) cI 42 ox) :: (oa (a 34) cI 42 oy) :: (oa (a 37) cZ 201 mt) :: (oa (a 38) cZ 201 wi) :: (oa (a 39) cZ 8040 ins) :: (oa (a 40) cI 6 T0) :: (oa (a 43) cZ 40 fl) :: (oa (a 50) cZ 201 mk) :: (oa (a 51) cI 402 jx) :: (oa (a 52) cI 402 jy) :: (oa (a 53) cI 402 gr) :: []) ++ va_pl L f) H) (hS : va_S (fun q : Nat => s.heap.size ≤ q) s.heap H locs) (hl : lv_has ls 4 [(3, .int (nI (6 * k9))), (2, .ref k0), (1, .ref x), (0, .ref b)]) (hB : shB cI cO L f e0 FA ea bs dn T ft FT V VX VY tn rk wd tw pa pb wh of9 we kd st gb it mn cx cy) (hI : INV k9 Sn AD C cc W9 bs T ft cp ln cl FT V VX VY tn rk wd tw pa pb kd st it mn cx cy sa shs lb lc) (hM : I0 0 = nI ft ∧ I0 19 = nI dn ∧ I0 20 = nI (T - dn) ∧ I0 21 = nI bs) (hU : U ≤ Sn * (28 * (AD + C) + 1000) + 200 * (AD + C)) (hf0 : f0 < ft) (hv1 : xs (6 * k9 + 1) = nI f0) (hbad : ¬ (0 ≤ (xs (6 * k9 + 2)).toInt ∧ (xs (6 * k9 + 2)).toInt < ((ft : Nat) : Int))) (hnext : ∀ (cp1 cl1 U1 : Nat) (H : Heap) (locs : List Loc) (ls : Array Slot), lawI s dC dI cI cZ cF cO e0 mi x sl sh fa lw dr dx dy tg tx ty wy wx wz br bo aa ro za zw zx zy zg bq bp dq dp lv k0 (k9 + 1) cp1 cl1 U1 H → va_S (fun q : Nat => s.heap.size ≤ q) s.heap H locs → lv_has ls 4 [(3, .int (nI (6 * k9))), (2, .ref k0), (1, .ref x), (0, .ref b)] → W p l e room_1 s m #[Value.ref b] below meth c H locs (1000 + 1010 * (k9 + 1) + cp1 + 4 * cl1) (45000 + 8192 * cp1 + 512 * cl1 + U1) (lw_Z below #[Value.ref b] s) (F0 m 1081 ls [])) : W p l e room_1 s m #[Value.ref b] below meth c H locs (1000 + 1010 * k9 + cp + 4 * cl) (45000 + 8192 * cp + 512 * cl + U) (lw_Z below #[Value.ref b] s) (F0 m 642 ls []) := by
  obtain ⟨hP, hD⟩ := hPD
  obtain ⟨hx, hb, hr, hml, hown, hts1, hX, hbl, hlocks, hgv⟩ := id C0
  have hts : ∀ w9 ∈ ws0, w9.before #[Value.ref b] s = true := fun w9 h => hts1 w9 (List.mem_filter.mp h).1
  have hA : ∀ q : Nat, s.heap.size ≤ q → (fun q : Nat => s.heap.size ≤ q) q := fun _ h => h
  have hbA : ¬ (fun q : Nat => s.heap.size ≤ q) b := Nat.not_le.mpr hbl
  have hXN := hXL.1
  have hK3 := hK.sub [0, 1, 2] rfl
  obtain ⟨hm0, hm19, hm20, hm21⟩ := hM
  have hpo := shB_po hB
  have hK512 : k9 + 1 ≤ 512 := r9_k hk9 hL9
  have hwfS := hI.1.1
  have hbdC := hI.1.2.2.1
  have hT0 := hI.1.2.2.2
  have hd9 := hpo.1
  have h200t : ∀ t, bs ≤ t → t ≤ T → FT t ≤ 200 := fun t t1 t2 => Nat.le_trans (hpo.2.1 t T t1 t2 (Nat.le_refl _)) hd9.2.2.2.2
  have h200f : ft ≤ 200 := (by rw [hd9.2.2.2.1]; exact h200t dn hd9.1 hd9.2.1)
  have hrkA : ∀ q, lvF ft st tn q → 0 ≤ (rk q).toInt ∧ (rk q).toInt ≤ 9 := fun q hq => (hI.1.2.1 q (Nat.lt_of_lt_of_le hq.1 (by rw [hd9.2.2.2.1]; exact hpo.2.1 dn T hd9.1 hd9.2.1 (Nat.le_refl _)))).1
  have hwdA : ∀ q, q < ft → 0 ≤ (wd q).toInt ∧ (wd q).toInt ≤ 100 := fun q hq => (hI.1.2.1 q (Nat.lt_of_lt_of_le hq (by rw [hd9.2.2.2.1]; exact hpo.2.1 dn T hd9.1 hd9.2.1 (Nat.le_refl _)))).2
  have hcp5 := INV_cp hI (Nat.le_of_succ_le hK512)
  have hcp1 := hI.2.2.1.2.1
  have hcnt := hI.2.2.2.1
  have hlst := hI.2.2.2.2
  have hlb := mul_514 (a := Sn) (b := C) (r9_s hcnt.2.1 hK512).2.1
  have hftA := bdC_F hbdC
  have hrm := room_c (Sn := Sn) (AD := AD) (C := C) (c := cp) (cl := cl) (U := U) (r9_s hcnt.2.1 hK512).1 hI.2.2.1.2.2.2.2.2 hlst.2.2.2.1 hU
  have hrc : 1000 + 1010 * k9 + cp + 4 * cl ≤ 600000 := (by omega)
  have hefA : ∀ q, lvF ft st tn q → 1 ≤ eO (kd q).toInt (nN (mn q)) := fun q hq => eO_1 (wfS_kn hwfS q hq)
  refine la_16_1 l C0 hk9 hL9 hS hl (hv1) (rfl) ?_
  obtain ⟨hPc, hDc, hFc⟩ := zt_3 hP hD hS hA
  refine zcall (st1 := [.int 0]) (va_runV (As := [.int (nI f0), .int (xs (6 * k9 + 2))]) (rest := []) ⟨hx, hb, hml, hown, hts⟩ (k_meets_z l dC dI cI cZ cF H.size x sh lw ro bq bp dq dp lv sl (nI bs) ul su (nI dn) fa ft FA L f kd st tn mn cx cy rk wd tw pa pb gb it (nI f0) (xs (6 * k9 + 2)) (h200f) (shB_va hB) (fun ⟨_, ⟨g, e, hg⟩⟩ => nI_bad h200f hbad hg.1 e)) (csV_275 hts rfl rfl ⟨Nat.le_of_ble_eq_true rfl, Nat.le_of_ble_eq_true rfl⟩) (zPV2 (q0 := 0) (ci := 8) hPc hDc hK3 hXN rfl rfl) rfl rfl hl.1 rfl (lv_room (Nat.le_of_ble_eq_true rfl)) dL_law_653 ⟨hrc, hrm⟩) hS hFc hFc rfl (fun t H locs ht hB hk1 hS => ?_)
  obtain ⟨hP1, hD1⟩ := hB
  rw [ht] at hP1
  obtain ⟨hP, hD⟩ := zs_3  hP hD hk1 hFc hP1 hD1
  clear hk1 hPc hDc hFc hP1 hD1 ht
  refine lv_pop hx hb dL_law_656 rfl ?_
  refine la_16_2 l C0 hk9 hL9 hS hl (hv1) (rfl) ?_
  obtain ⟨hPc, hDc, hFc⟩ := zt_4 hP hD hS hA
  refine zcall (st1 := [.int 0]) (va_runV (As := [.int (nI f0), .int (xs (6 * k9 + 2))]) (rest := []) ⟨hx, hb, hml, hown, hts⟩ (k_M_meets_x2 l dC dI cI cZ cF H.size k0 a (upd I0 26 (nI ln)) J0 f0 ft (xs (6 * k9 + 2)) st tn (hm0) (h200f) (hbad) (by first | with_reducible assumption | omega)) (csV_276 hts rfl rfl ⟨Nat.le_of_ble_eq_true rfl, Nat.le_of_ble_eq_true rfl⟩) (zPV2 (q0 := 0) (ci := 9) hPc hDc hK3 hXN rfl rfl) rfl rfl hl.1 rfl (lv_room (Nat.le_of_ble_eq_true rfl)) dL_law_668 ⟨hrc, hrm⟩) hS hFc hFc rfl (fun t H locs ht hB hk1 hS => ?_)
  obtain ⟨hP1, hD1⟩ := hB
  rw [ht] at hP1
  obtain ⟨hP, hD⟩ := zs_4  hP hD hk1 hFc hP1 hD1
  clear hk1 hPc hDc hFc hP1 hD1 ht
  refine lv_pop hx hb dL_law_671 rfl ?_
  refine lv_goto (tgt := 1081) hx hb dL_law_672 rfl ?_
  obtain ⟨hP9, hD9⟩ := And.intro hP hD
  refine W.widen (k := 1000 + 1010 * (k9 + 1) + cp + 4 * cl) (n := 45000 + 8192 * cp + 512 * cl + U) (by first | exact wdK | omega) (by first | exact Nat.le_refl _ | omega) ?_
  exact hnext cp cl U H locs ls (lawI_in L f FA ea nd nt nw ul su mc9 rd rt rw P Q TX TY WX WY AR b1 b2 b3 b4 b5 b6 b7 b8 c1 c2 c3 c4 a1 a2 a3 a4 nv RA WT EX EY GR LV y1 y2 y3 y4 a I0 J0 kd st gb it pa pb rk wd tw tn mn cx cy sa shs wh of9 we la lb lc ld P0 Q0 S0 ox oy mt wi ins T0 fl mk jx jy gr bs dn T ft Sn AD C ln FT cc W9 V VX VY hP9 hD9 (hB) (INV_K hI) ⟨hm0, hm19, hm20, hm21⟩ (by first | exact hU | omega)) hS (lv_sub hl [0, 1, 2, 3] rfl)
set_option maxHeartbeats 4000000 in
set_option maxRecDepth 100000 in
theorem lc_meets_z {p : Program} {e : Env} {s : State} {m : MethodId} {below : List Frame} {meth : Method} {c : Code} (l : Launch) {b L9 : Nat} {xs : Nat → Int32} (C0 : lw_At p s m meth c b L9 xs) (dC : Nat → ClassId) (dI : Nat → Nat → Nat) (cI cZ cF cO : ClassId) (e0 mi : Nat) (x sl sh fa lw dr dx dy tg tx ty wy wx wz br bo aa ro za zw zx zy zg bq bp dq dp lv k0 : Nat) (hK : va_K (dC, dI) classes (zTyO cI cZ cF cO) s) (hXL : zXL e0 mi (fun q : Nat => s.heap.size ≤ q) s) (L : List Nat) (f : Nat → va_E) (FA : Nat → Option Nat) (ea : Nat) (nd : Nat) (nt : Nat) (nw : Nat) (ul : Int32) (su : Int32) (mc9 : Int32) (rd : Int32) (rt : Int32) (rw : Int32) (P : Nat → Int32) (Q : Nat → Int32) (TX : Nat → Int32) (TY : Nat → Int32) (WX : Nat → Int32) (WY : Nat → Int32) (AR : Nat → Int32) (b1 : Int32) (b2 : Int32) (b3 : Int32) (b4 : Int32) (b5 : Int32) (b6 : Int32) (b7 : Int32) (b8 : Int32) (c1 : Int32) (c2 : Int32) (c3 : Int32) (c4 : Int32) (a1 : Int32) (a2 : Int32) (a3 : Int32) (a4 : Int32) (nv : Int32) (RA : Nat → Option Nat) (WT : Nat → Int32) (EX : Nat → Int32) (EY : Nat → Int32) (GR : Nat → Int32) (LV : Nat → Int32) (y1 : Int64) (y2 : Int64) (y3 : Int64) (y4 : Int64) (a : Nat → Nat) (I0 : Nat → Int32) (J0 : Nat → Int64) (kd : Nat → Int32) (st : Nat → Int32) (gb : Nat → Int32) (it : Nat → Int32) (pa : Nat → Int32) (pb : Nat → Int32) (rk : Nat → Int32) (wd : Nat → Int32) (tw : Nat → Int32) (tn : Nat → Int32) (mn : Nat → Int32) (cx : Nat → Int32) (cy : Nat → Int32) (sa : Nat → Int32) (shs : Nat → Int32) (wh : Nat → Int32) (of9 : Nat → Int32) (we : Nat → Int32) (la : Nat → Int32) (lb : Nat → Int32) (lc : Nat → Int32) (ld : Nat → Int32) (P0 : Nat → Int32) (Q0 : Nat → Int32) (S0 : Nat → Int32) (ox : Nat → Int32) (oy : Nat → Int32) (mt : Nat → Int32) (wi : Nat → Int32) (ins : Nat → Int32) (T0 : Nat → Int32) (fl : Nat → Int32) (mk : Nat → Int32) (jx : Nat → Int32) (jy : Nat → Int32) (gr : Nat → Int32) (bs : Nat) (dn : Nat) (T : Nat) (ft : Nat) (Sn : Nat) (AD : Nat) (C : Nat) (ln : Nat) (FT : Nat → Nat) (cc : Nat → Nat) (W9 : Nat → Nat) (V : Nat → Nat → Nat → Int32) (VX : Nat → Nat → Int32) (VY : Nat → Nat → Int32) (cp cl U k9 : Nat) (hk9 : 6 * k9 + 6 ≤ L9) (hL9 : L9 ≤ 3072) (f0 : Nat) (g0 : Nat) {H : Heap} {locs : List Loc} {ls : Array Slot} (hPD : zPD (dC, dI) classes (fun q : Nat => s.heap.size ≤ q) (((oc8 x (.ref sh) (.ref lw) (.ref ro) (.ref bq) (.ref bp) (.ref dq) (.ref dp) (.ref lv) (.ref sl) (nI dn) (nI bs) ul su) :: (oc10 sl mc9 (.ref ea) (nI T)) :: (oc7 sh (.ref fa) (nI ft)) :: (oq fa cF 200 FA) :: (oc3 lw (.ref dr) (.ref tg) (.ref wy) (.ref br) (.ref bo) (.ref aa)) :: (oc6 dr (.ref dx) (.ref dy) (nI nd) rd) :: (oa dx cI 40 P) :: (oa dy cI 40 Q) :: (oc6 tg (.ref tx) (.ref ty) (nI nt) rt) :: (oa tx cI 3 TX) :: (oa ty cI 3 TY) :: (oc6 wy (.ref wx) (.ref wz) (nI nw) rw) :: (oa wx cI 2 WX) :: (oa wz cI 2 WY) :: (oc0 br b1 b2 b3 b4) :: (oc0 bo b5 b6 b7 b8) :: (oa aa cI 40 AR) :: (oc5 ro (.ref za) (.ref zw) (.ref zx) (.ref zy) (.ref zg) nv) :: (oq za cF 200 RA) :: (oa zw cI 200 WT) :: (oa zx cI 400 EX) :: (oa zy cI 400 EY) :: (oa zg cI 400 GR) :: (oc0 bq c1 c2 c3 c4) :: (oc0 bp a1 a2 a3 a4) :: (oc2 dq y1 y2) :: (oc2 dp y3 y4) :: (oa lv cZ 200 LV) :: (om k0 a (upd I0 26 (nI ln)) J0) :: (oa (a 1) cI 201 kd) :: (oa (a 5) cI 201 st) :: (oa (a 7) cI 201 gb) :: (oa (a 10) cI 201 it) :: (oa (a 8) cI 201 pa) :: (oa (a 9) cI 201 pb) :: (oa (a 2) cI 201 rk) :: (oa (a 3) cI 201 wd) :: (oa (a 4) cI 201 tw) :: (oa (a 6) cZ 201 tn) :: (oa (a 11) cI 201 mn) :: (oa (a 12) cI 8040 cx) :: (oa (a 13) cI 8040 cy) :: (oa (a 27) cI 516 sa) :: (oa (a 28) cI (4096 * cp) shs) :: (oa (a 16) cI 514 wh) :: (oa (a 17) cI 514 of9) :: (oa (a 18) cI 514 we) :: (oa (a 22) cI (64 * cl) la) :: (oa (a 23) cI (64 * cl) lb) :: (oa (a 24) cI (64 * cl) lc) :: (oa (a 25) cI (64 * cl) ld) :: (oa (a 29) cI 42 P0) :: (oa (a 30) cI 42 Q0) :: (oa (a 32) cI 8 S0) :: (oa (a 33) cI 42 ox) :: (oa (a 34) cI 42 oy) :: (oa (a 37) cZ 201 mt) :: (oa (a 38) cZ 201 wi) :: (oa (a 39) cZ 8040 ins) :: (oa (a 40) cI 6 T0) :: (oa (a 43) cZ 40 fl) :: (oa (a 50) cZ 201 mk) :: (oa (a 51) cI 402 jx) :: (oa (a 52) cI 402 jy) :: (oa (a 53) cI 402 gr) :: []) ++ va_pl L f) H) (hS : va_S (fun q : Nat => s.heap.size ≤ q) s.heap H locs) (hl : lv_has ls 4 [(3, .int (nI (6 * k9))), (2, .ref k0), (1, .ref x), (0, .ref b)]) (hB : shB cI cO L f e0 FA ea bs dn T ft FT V VX VY tn rk wd tw pa pb wh of9 we kd st gb it mn cx cy) (hI : INV k9 Sn AD C cc W9 bs T ft cp ln cl FT V VX VY tn rk wd tw pa pb kd st it mn cx cy sa shs lb lc) (hM : I0 0 = nI ft ∧ I0 19 = nI dn ∧ I0 20 = nI (T - dn) ∧ I0 21 = nI bs) (hU : U ≤ Sn * (28 * (AD + C) + 1000) + 200 * (AD + C)) (hf0 : f0 < ft) (hv1 : xs (6 * k9 + 1) = nI f0) (hg0 : g0 < ft) (hv2 : xs (6 * k9 + 2) = nI g0) (hbad : ¬ (lvF ft st tn f0 ∧ lvF ft st tn g0)) (hnext : ∀ (cp1 cl1 U1 : Nat) (H : Heap) (locs : List Loc) (ls : Array Slot), lawI s dC dI cI cZ cF cO e0 mi x sl sh fa lw dr dx dy tg tx ty wy wx wz br bo aa ro za zw zx zy zg bq bp dq dp lv k0 (k9 + 1) cp1 cl1 U1 H → va_S (fun q : Nat => s.heap.size ≤ q) s.heap H locs → lv_has ls 4 [(3, .int (nI (6 * k9))), (2, .ref k0), (1, .ref x), (0, .ref b)] → W p l e room_1 s m #[Value.ref b] below meth c H locs (1000 + 1010 * (k9 + 1) + cp1 + 4 * cl1) (45000 + 8192 * cp1 + 512 * cl1 + U1) (lw_Z below #[Value.ref b] s) (F0 m 1081 ls [])) : W p l e room_1 s m #[Value.ref b] below meth c H locs (1000 + 1010 * k9 + cp + 4 * cl) (45000 + 8192 * cp + 512 * cl + U) (lw_Z below #[Value.ref b] s) (F0 m 642 ls []) := by
  obtain ⟨hP, hD⟩ := hPD
  obtain ⟨hx, hb, hr, hml, hown, hts1, hX, hbl, hlocks, hgv⟩ := id C0
  have hts : ∀ w9 ∈ ws0, w9.before #[Value.ref b] s = true := fun w9 h => hts1 w9 (List.mem_filter.mp h).1
  have hA : ∀ q : Nat, s.heap.size ≤ q → (fun q : Nat => s.heap.size ≤ q) q := fun _ h => h
  have hbA : ¬ (fun q : Nat => s.heap.size ≤ q) b := Nat.not_le.mpr hbl
  have hXN := hXL.1
  have hK3 := hK.sub [0, 1, 2] rfl
  obtain ⟨hm0, hm19, hm20, hm21⟩ := hM
  have hpo := shB_po hB
  have hK512 : k9 + 1 ≤ 512 := r9_k hk9 hL9
  have hwfS := hI.1.1
  have hbdC := hI.1.2.2.1
  have hT0 := hI.1.2.2.2
  have hd9 := hpo.1
  have h200t : ∀ t, bs ≤ t → t ≤ T → FT t ≤ 200 := fun t t1 t2 => Nat.le_trans (hpo.2.1 t T t1 t2 (Nat.le_refl _)) hd9.2.2.2.2
  have h200f : ft ≤ 200 := (by rw [hd9.2.2.2.1]; exact h200t dn hd9.1 hd9.2.1)
  have hrkA : ∀ q, lvF ft st tn q → 0 ≤ (rk q).toInt ∧ (rk q).toInt ≤ 9 := fun q hq => (hI.1.2.1 q (Nat.lt_of_lt_of_le hq.1 (by rw [hd9.2.2.2.1]; exact hpo.2.1 dn T hd9.1 hd9.2.1 (Nat.le_refl _)))).1
  have hwdA : ∀ q, q < ft → 0 ≤ (wd q).toInt ∧ (wd q).toInt ≤ 100 := fun q hq => (hI.1.2.1 q (Nat.lt_of_lt_of_le hq (by rw [hd9.2.2.2.1]; exact hpo.2.1 dn T hd9.1 hd9.2.1 (Nat.le_refl _)))).2
  have hcp5 := INV_cp hI (Nat.le_of_succ_le hK512)
  have hcp1 := hI.2.2.1.2.1
  have hcnt := hI.2.2.2.1
  have hlst := hI.2.2.2.2
  have hlb := mul_514 (a := Sn) (b := C) (r9_s hcnt.2.1 hK512).2.1
  have hftA := bdC_F hbdC
  have hrm := room_c (Sn := Sn) (AD := AD) (C := C) (c := cp) (cl := cl) (U := U) (r9_s hcnt.2.1 hK512).1 hI.2.2.1.2.2.2.2.2 hlst.2.2.2.1 hU
  have hrc : 1000 + 1010 * k9 + cp + 4 * cl ≤ 600000 := (by omega)
  have hefA : ∀ q, lvF ft st tn q → 1 ≤ eO (kd q).toInt (nN (mn q)) := fun q hq => eO_1 (wfS_kn hwfS q hq)
  refine la_16_1 l C0 hk9 hL9 hS hl (hv1) (hv2) ?_
  obtain ⟨hPc, hDc, hFc⟩ := zt_3 hP hD hS hA
  refine zcall (st1 := [.int 0]) (va_runV (As := [.int (nI f0), .int (nI g0)]) (rest := []) ⟨hx, hb, hml, hown, hts⟩ (k_meets_z l dC dI cI cZ cF H.size x sh lw ro bq bp dq dp lv sl (nI bs) ul su (nI dn) fa ft FA L f kd st tn mn cx cy rk wd tw pa pb gb it (nI f0) (nI g0) (h200f) (shB_va hB) (fun ⟨⟨g, e, hg⟩, g2, e2, hg2⟩ => hbad ⟨(by rw [nI_inj9 (a := f0) (b := g) (by first | with_reducible assumption | omega) (by have := hg.1; omega) e]; exact hg), (by rw [nI_inj9 (a := g0) (b := g2) (by first | with_reducible assumption | omega) (by have := hg2.1; omega) e2]; exact hg2)⟩)) (csV_275 hts rfl rfl ⟨Nat.le_of_ble_eq_true rfl, Nat.le_of_ble_eq_true rfl⟩) (zPV2 (q0 := 0) (ci := 8) hPc hDc hK3 hXN rfl rfl) rfl rfl hl.1 rfl (lv_room (Nat.le_of_ble_eq_true rfl)) dL_law_653 ⟨hrc, hrm⟩) hS hFc hFc rfl (fun t H locs ht hB hk1 hS => ?_)
  obtain ⟨hP1, hD1⟩ := hB
  rw [ht] at hP1
  obtain ⟨hP, hD⟩ := zs_3  hP hD hk1 hFc hP1 hD1
  clear hk1 hPc hDc hFc hP1 hD1 ht
  refine lv_pop hx hb dL_law_656 rfl ?_
  refine la_16_2 l C0 hk9 hL9 hS hl (hv1) (hv2) ?_
  obtain ⟨hPc, hDc, hFc⟩ := zt_7 hP hD hS hA
  refine zcall (st1 := [.int (pI (lvF ft st tn f0 ∧ lvF ft st tn g0 ∧ mtF (kd f0).toInt (nN (mn f0)) (cF40 cx f0) (cF40 cy f0) (kd g0).toInt (nN (mn g0)) (cF40 cx g0) (cF40 cy g0)))]) (va_runV (As := [.int (nI f0), .int (nI g0)]) (rest := []) ⟨hx, hb, hml, hown, hts⟩ (k_M_meets l dC dI cI cZ cF H.size k0 a (upd I0 26 (nI ln)) J0 f0 g0 ft st tn kd mn cx cy S0 (hm0) (h200f) (wfS_wf hwfS) (hf0) (hg0)) (csV_276 hts rfl rfl ⟨Nat.le_of_ble_eq_true rfl, Nat.le_of_ble_eq_true rfl⟩) (zPV2 (q0 := 0) (ci := 9) hPc hDc hK3 hXN rfl rfl) rfl rfl hl.1 rfl (lv_room (Nat.le_of_ble_eq_true rfl)) dL_law_668 ⟨hrc, hrm⟩) hS hFc hFc rfl (fun t H locs ht hB hk1 hS => ?_)
  obtain ⟨q_1, hP1, hD1⟩ := hB
  rw [ht] at hP1
  obtain ⟨hP, hD⟩ := zs_7 (u53 := (oa (a 32) cI 8 q_1)) hP hD hk1 hFc hP1 hD1
  clear hk1 hPc hDc hFc hP1 hD1 ht
  refine lv_pop hx hb dL_law_671 rfl ?_
  refine lv_goto (tgt := 1081) hx hb dL_law_672 rfl ?_
  obtain ⟨hP9, hD9⟩ := And.intro hP hD
  refine W.widen (k := 1000 + 1010 * (k9 + 1) + cp + 4 * cl) (n := 45000 + 8192 * cp + 512 * cl + U) (by first | exact wdK | omega) (by first | exact Nat.le_refl _ | omega) ?_
  exact hnext cp cl U H locs ls (lawI_in L f FA ea nd nt nw ul su mc9 rd rt rw P Q TX TY WX WY AR b1 b2 b3 b4 b5 b6 b7 b8 c1 c2 c3 c4 a1 a2 a3 a4 nv RA WT EX EY GR LV y1 y2 y3 y4 a I0 J0 kd st gb it pa pb rk wd tw tn mn cx cy sa shs wh of9 we la lb lc ld P0 Q0 q_1 ox oy mt wi ins T0 fl mk jx jy gr bs dn T ft Sn AD C ln FT cc W9 V VX VY hP9 hD9 (hB) (INV_K hI) ⟨hm0, hm19, hm20, hm21⟩ (by first | exact hU | omega)) hS (lv_sub hl [0, 1, 2, 3] rfl)
set_option maxHeartbeats 4000000 in
set_option maxRecDepth 100000 in
theorem lc_meets_s {p : Program} {e : Env} {s : State} {m : MethodId} {below : List Frame} {meth : Method} {c : Code} (l : Launch) {b L9 : Nat} {xs : Nat → Int32} (C0 : lw_At p s m meth c b L9 xs) (dC : Nat → ClassId) (dI : Nat → Nat → Nat) (cI cZ cF cO : ClassId) (e0 mi : Nat) (x sl sh fa lw dr dx dy tg tx ty wy wx wz br bo aa ro za zw zx zy zg bq bp dq dp lv k0 : Nat) (hK : va_K (dC, dI) classes (zTyO cI cZ cF cO) s) (hXL : zXL e0 mi (fun q : Nat => s.heap.size ≤ q) s) (L : List Nat) (f : Nat → va_E) (FA : Nat → Option Nat) (ea : Nat) (nd : Nat) (nt : Nat) (nw : Nat) (ul : Int32) (su : Int32) (mc9 : Int32) (rd : Int32) (rt : Int32) (rw : Int32) (P : Nat → Int32) (Q : Nat → Int32) (TX : Nat → Int32) (TY : Nat → Int32) (WX : Nat → Int32) (WY : Nat → Int32) (AR : Nat → Int32) (b1 : Int32) (b2 : Int32) (b3 : Int32) (b4 : Int32) (b5 : Int32) (b6 : Int32) (b7 : Int32) (b8 : Int32) (c1 : Int32) (c2 : Int32) (c3 : Int32) (c4 : Int32) (a1 : Int32) (a2 : Int32) (a3 : Int32) (a4 : Int32) (nv : Int32) (RA : Nat → Option Nat) (WT : Nat → Int32) (EX : Nat → Int32) (EY : Nat → Int32) (GR : Nat → Int32) (LV : Nat → Int32) (y1 : Int64) (y2 : Int64) (y3 : Int64) (y4 : Int64) (a : Nat → Nat) (I0 : Nat → Int32) (J0 : Nat → Int64) (kd : Nat → Int32) (st : Nat → Int32) (gb : Nat → Int32) (it : Nat → Int32) (pa : Nat → Int32) (pb : Nat → Int32) (rk : Nat → Int32) (wd : Nat → Int32) (tw : Nat → Int32) (tn : Nat → Int32) (mn : Nat → Int32) (cx : Nat → Int32) (cy : Nat → Int32) (sa : Nat → Int32) (shs : Nat → Int32) (wh : Nat → Int32) (of9 : Nat → Int32) (we : Nat → Int32) (la : Nat → Int32) (lb : Nat → Int32) (lc : Nat → Int32) (ld : Nat → Int32) (P0 : Nat → Int32) (Q0 : Nat → Int32) (S0 : Nat → Int32) (ox : Nat → Int32) (oy : Nat → Int32) (mt : Nat → Int32) (wi : Nat → Int32) (ins : Nat → Int32) (T0 : Nat → Int32) (fl : Nat → Int32) (mk : Nat → Int32) (jx : Nat → Int32) (jy : Nat → Int32) (gr : Nat → Int32) (bs : Nat) (dn : Nat) (T : Nat) (ft : Nat) (Sn : Nat) (AD : Nat) (C : Nat) (ln : Nat) (FT : Nat → Nat) (cc : Nat → Nat) (W9 : Nat → Nat) (V : Nat → Nat → Nat → Int32) (VX : Nat → Nat → Int32) (VY : Nat → Nat → Int32) (cp cl U k9 : Nat) (hk9 : 6 * k9 + 6 ≤ L9) (hL9 : L9 ≤ 3072) (f0 : Nat) {H : Heap} {locs : List Loc} {ls : Array Slot} (hPD : zPD (dC, dI) classes (fun q : Nat => s.heap.size ≤ q) (((oc8 x (.ref sh) (.ref lw) (.ref ro) (.ref bq) (.ref bp) (.ref dq) (.ref dp) (.ref lv) (.ref sl) (nI dn) (nI bs) ul su) :: (oc10 sl mc9 (.ref ea) (nI T)) :: (oc7 sh (.ref fa) (nI ft)) :: (oq fa cF 200 FA) :: (oc3 lw (.ref dr) (.ref tg) (.ref wy) (.ref br) (.ref bo) (.ref aa)) :: (oc6 dr (.ref dx) (.ref dy) (nI nd) rd) :: (oa dx cI 40 P) :: (oa dy cI 40 Q) :: (oc6 tg (.ref tx) (.ref ty) (nI nt) rt) :: (oa tx cI 3 TX) :: (oa ty cI 3 TY) :: (oc6 wy (.ref wx) (.ref wz) (nI nw) rw) :: (oa wx cI 2 WX) :: (oa wz cI 2 WY) :: (oc0 br b1 b2 b3 b4) :: (oc0 bo b5 b6 b7 b8) :: (oa aa cI 40 AR) :: (oc5 ro (.ref za) (.ref zw) (.ref zx) (.ref zy) (.ref zg) nv) :: (oq za cF 200 RA) :: (oa zw cI 200 WT) :: (oa zx cI 400 EX) :: (oa zy cI 400 EY) :: (oa zg cI 400 GR) :: (oc0 bq c1 c2 c3 c4) :: (oc0 bp a1 a2 a3 a4) :: (oc2 dq y1 y2) :: (oc2 dp y3 y4) :: (oa lv cZ 200 LV) :: (om k0 a (upd I0 26 (nI ln)) J0) :: (oa (a 1) cI 201 kd) :: (oa (a 5) cI 201 st) :: (oa (a 7) cI 201 gb) :: (oa (a 10) cI 201 it) :: (oa (a 8) cI 201 pa) :: (oa (a 9) cI 201 pb) :: (oa (a 2) cI 201 rk) :: (oa (a 3) cI 201 wd) :: (oa (a 4) cI 201 tw) :: (oa (a 6) cZ 201 tn) :: (oa (a 11) cI 201 mn) :: (oa (a 12) cI 8040 cx) :: (oa (a 13) cI 8040 cy) :: (oa (a 27) cI 516 sa) :: (oa (a 28) cI (4096 * cp) shs) :: (oa (a 16) cI 514 wh) :: (oa (a 17) cI 514 of9) :: (oa (a 18) cI 514 we) :: (oa (a 22) cI (64 * cl) la) :: (oa (a 23) cI (64 * cl) lb) :: (oa (a 24) cI (64 * cl) lc) :: (oa (a 25) cI (64 * cl) ld) :: (oa (a 29) cI 42 P0) :: (oa (a 30) cI 42 Q0) :: (oa (a 32) cI 8 S0) :: (oa (a 33) cI 42 ox) :: (oa (a 34) cI 42 oy) :: (oa (a 37) cZ 201 mt) :: (oa (a 38) cZ 201 wi) :: (oa (a 39) cZ 8040 ins) :: (oa (a 40) cI 6 T0) :: (oa (a 43) cZ 40 fl) :: (oa (a 50) cZ 201 mk) :: (oa (a 51) cI 402 jx) :: (oa (a 52) cI 402 jy) :: (oa (a 53) cI 402 gr) :: []) ++ va_pl L f) H) (hS : va_S (fun q : Nat => s.heap.size ≤ q) s.heap H locs) (hl : lv_has ls 4 [(3, .int (nI (6 * k9))), (2, .ref k0), (1, .ref x), (0, .ref b)]) (hB : shB cI cO L f e0 FA ea bs dn T ft FT V VX VY tn rk wd tw pa pb wh of9 we kd st gb it mn cx cy) (hI : INV k9 Sn AD C cc W9 bs T ft cp ln cl FT V VX VY tn rk wd tw pa pb kd st it mn cx cy sa shs lb lc) (hM : I0 0 = nI ft ∧ I0 19 = nI dn ∧ I0 20 = nI (T - dn) ∧ I0 21 = nI bs) (hU : U ≤ Sn * (28 * (AD + C) + 1000) + 200 * (AD + C)) (hf0 : f0 < ft) (hv1 : xs (6 * k9 + 1) = nI f0) (hv2 : xs (6 * k9 + 2) = nI f0) (hlv : lvF ft st tn f0) (hnext : ∀ (cp1 cl1 U1 : Nat) (H : Heap) (locs : List Loc) (ls : Array Slot), lawI s dC dI cI cZ cF cO e0 mi x sl sh fa lw dr dx dy tg tx ty wy wx wz br bo aa ro za zw zx zy zg bq bp dq dp lv k0 (k9 + 1) cp1 cl1 U1 H → va_S (fun q : Nat => s.heap.size ≤ q) s.heap H locs → lv_has ls 4 [(3, .int (nI (6 * k9))), (2, .ref k0), (1, .ref x), (0, .ref b)] → W p l e room_1 s m #[Value.ref b] below meth c H locs (1000 + 1010 * (k9 + 1) + cp1 + 4 * cl1) (45000 + 8192 * cp1 + 512 * cl1 + U1) (lw_Z below #[Value.ref b] s) (F0 m 1081 ls [])) : W p l e room_1 s m #[Value.ref b] below meth c H locs (1000 + 1010 * k9 + cp + 4 * cl) (45000 + 8192 * cp + 512 * cl + U) (lw_Z below #[Value.ref b] s) (F0 m 642 ls []) := by
  obtain ⟨hP, hD⟩ := hPD
  obtain ⟨hx, hb, hr, hml, hown, hts1, hX, hbl, hlocks, hgv⟩ := id C0
  have hts : ∀ w9 ∈ ws0, w9.before #[Value.ref b] s = true := fun w9 h => hts1 w9 (List.mem_filter.mp h).1
  have hA : ∀ q : Nat, s.heap.size ≤ q → (fun q : Nat => s.heap.size ≤ q) q := fun _ h => h
  have hbA : ¬ (fun q : Nat => s.heap.size ≤ q) b := Nat.not_le.mpr hbl
  have hXN := hXL.1
  have hK3 := hK.sub [0, 1, 2] rfl
  obtain ⟨hm0, hm19, hm20, hm21⟩ := hM
  have hpo := shB_po hB
  have hK512 : k9 + 1 ≤ 512 := r9_k hk9 hL9
  have hwfS := hI.1.1
  have hbdC := hI.1.2.2.1
  have hT0 := hI.1.2.2.2
  have hd9 := hpo.1
  have h200t : ∀ t, bs ≤ t → t ≤ T → FT t ≤ 200 := fun t t1 t2 => Nat.le_trans (hpo.2.1 t T t1 t2 (Nat.le_refl _)) hd9.2.2.2.2
  have h200f : ft ≤ 200 := (by rw [hd9.2.2.2.1]; exact h200t dn hd9.1 hd9.2.1)
  have hrkA : ∀ q, lvF ft st tn q → 0 ≤ (rk q).toInt ∧ (rk q).toInt ≤ 9 := fun q hq => (hI.1.2.1 q (Nat.lt_of_lt_of_le hq.1 (by rw [hd9.2.2.2.1]; exact hpo.2.1 dn T hd9.1 hd9.2.1 (Nat.le_refl _)))).1
  have hwdA : ∀ q, q < ft → 0 ≤ (wd q).toInt ∧ (wd q).toInt ≤ 100 := fun q hq => (hI.1.2.1 q (Nat.lt_of_lt_of_le hq (by rw [hd9.2.2.2.1]; exact hpo.2.1 dn T hd9.1 hd9.2.1 (Nat.le_refl _)))).2
  have hcp5 := INV_cp hI (Nat.le_of_succ_le hK512)
  have hcp1 := hI.2.2.1.2.1
  have hcnt := hI.2.2.2.1
  have hlst := hI.2.2.2.2
  have hlb := mul_514 (a := Sn) (b := C) (r9_s hcnt.2.1 hK512).2.1
  have hftA := bdC_F hbdC
  have hrm := room_c (Sn := Sn) (AD := AD) (C := C) (c := cp) (cl := cl) (U := U) (r9_s hcnt.2.1 hK512).1 hI.2.2.1.2.2.2.2.2 hlst.2.2.2.1 hU
  have hrc : 1000 + 1010 * k9 + cp + 4 * cl ≤ 600000 := (by omega)
  have hefA : ∀ q, lvF ft st tn q → 1 ≤ eO (kd q).toInt (nN (mn q)) := fun q hq => eO_1 (wfS_kn hwfS q hq)
  refine la_16_1 l C0 hk9 hL9 hS hl (hv1) (hv2) ?_
  obtain ⟨hPc, hDc, hFc⟩ := zt_6 hP hD hS hA
  refine zcall (st1 := [.int 1]) (va_runV (As := [.int (nI f0), .int (nI f0)]) (rest := []) ⟨hx, hb, hml, hown, hts⟩ (k_meets_s l dC dI cI cZ cF H.size cO e0 mi x sh lw ro bq bp dq dp lv sl (nI bs) ul su ea mc9 fa FA bs dn T ft FT V VX VY tn rk wd tw pa pb wh of9 we kd st gb it mn cx cy L f f0 (hB) (hf0) (hlv.2.2) (hlv.2.1) (wfS_wf hwfS) (wfS_kn hwfS)) (csV_275 hts rfl rfl ⟨Nat.le_of_ble_eq_true rfl, Nat.le_of_ble_eq_true rfl⟩) (zPVL (q0 := 0) (ci := 8) hPc hDc hK hXL hS hFc rfl rfl) rfl rfl hl.1 rfl (lv_room (Nat.le_of_ble_eq_true rfl)) dL_law_653 ⟨hrc, hrm⟩) hS hFc hFc rfl (fun t H locs ht hB hk1 hS => ?_)
  obtain ⟨hP1, hD1⟩ := hB
  rw [ht] at hP1
  obtain ⟨hP, hD⟩ := zs_6  hP hD hk1 hFc hP1 hD1
  clear hk1 hPc hDc hFc hP1 hD1 ht
  refine lv_pop hx hb dL_law_656 rfl ?_
  refine la_16_2 l C0 hk9 hL9 hS hl (hv1) (hv2) ?_
  obtain ⟨hPc, hDc, hFc⟩ := zt_7 hP hD hS hA
  refine zcall (st1 := [.int (pI (lvF ft st tn f0 ∧ lvF ft st tn f0 ∧ mtF (kd f0).toInt (nN (mn f0)) (cF40 cx f0) (cF40 cy f0) (kd f0).toInt (nN (mn f0)) (cF40 cx f0) (cF40 cy f0)))]) (va_runV (As := [.int (nI f0), .int (nI f0)]) (rest := []) ⟨hx, hb, hml, hown, hts⟩ (k_M_meets l dC dI cI cZ cF H.size k0 a (upd I0 26 (nI ln)) J0 f0 f0 ft st tn kd mn cx cy S0 (hm0) (h200f) (wfS_wf hwfS) (hf0) (hf0)) (csV_276 hts rfl rfl ⟨Nat.le_of_ble_eq_true rfl, Nat.le_of_ble_eq_true rfl⟩) (zPV2 (q0 := 0) (ci := 9) hPc hDc hK3 hXN rfl rfl) rfl rfl hl.1 rfl (lv_room (Nat.le_of_ble_eq_true rfl)) dL_law_668 ⟨hrc, hrm⟩) hS hFc hFc rfl (fun t H locs ht hB hk1 hS => ?_)
  obtain ⟨q_1, hP1, hD1⟩ := hB
  rw [ht] at hP1
  obtain ⟨hP, hD⟩ := zs_7 (u53 := (oa (a 32) cI 8 q_1)) hP hD hk1 hFc hP1 hD1
  clear hk1 hPc hDc hFc hP1 hD1 ht
  refine lv_pop hx hb dL_law_671 rfl ?_
  refine lv_goto (tgt := 1081) hx hb dL_law_672 rfl ?_
  obtain ⟨hP9, hD9⟩ := And.intro hP hD
  refine W.widen (k := 1000 + 1010 * (k9 + 1) + cp + 4 * cl) (n := 45000 + 8192 * cp + 512 * cl + U) (by first | exact wdK | omega) (by first | exact Nat.le_refl _ | omega) ?_
  exact hnext cp cl U H locs ls (lawI_in L f FA ea nd nt nw ul su mc9 rd rt rw P Q TX TY WX WY AR b1 b2 b3 b4 b5 b6 b7 b8 c1 c2 c3 c4 a1 a2 a3 a4 nv RA WT EX EY GR LV y1 y2 y3 y4 a I0 J0 kd st gb it pa pb rk wd tw tn mn cx cy sa shs wh of9 we la lb lc ld P0 Q0 q_1 ox oy mt wi ins T0 fl mk jx jy gr bs dn T ft Sn AD C ln FT cc W9 V VX VY hP9 hD9 (hB) (INV_K hI) ⟨hm0, hm19, hm20, hm21⟩ (by first | exact hU | omega)) hS (lv_sub hl [0, 1, 2, 3] rfl)
set_option maxHeartbeats 4000000 in
set_option maxRecDepth 100000 in
theorem lc_meets_y {p : Program} {e : Env} {s : State} {m : MethodId} {below : List Frame} {meth : Method} {c : Code} (l : Launch) {b L9 : Nat} {xs : Nat → Int32} (C0 : lw_At p s m meth c b L9 xs) (dC : Nat → ClassId) (dI : Nat → Nat → Nat) (cI cZ cF cO : ClassId) (e0 mi : Nat) (x sl sh fa lw dr dx dy tg tx ty wy wx wz br bo aa ro za zw zx zy zg bq bp dq dp lv k0 : Nat) (hK : va_K (dC, dI) classes (zTyO cI cZ cF cO) s) (hXL : zXL e0 mi (fun q : Nat => s.heap.size ≤ q) s) (L : List Nat) (f : Nat → va_E) (FA : Nat → Option Nat) (ea : Nat) (nd : Nat) (nt : Nat) (nw : Nat) (ul : Int32) (su : Int32) (mc9 : Int32) (rd : Int32) (rt : Int32) (rw : Int32) (P : Nat → Int32) (Q : Nat → Int32) (TX : Nat → Int32) (TY : Nat → Int32) (WX : Nat → Int32) (WY : Nat → Int32) (AR : Nat → Int32) (b1 : Int32) (b2 : Int32) (b3 : Int32) (b4 : Int32) (b5 : Int32) (b6 : Int32) (b7 : Int32) (b8 : Int32) (c1 : Int32) (c2 : Int32) (c3 : Int32) (c4 : Int32) (a1 : Int32) (a2 : Int32) (a3 : Int32) (a4 : Int32) (nv : Int32) (RA : Nat → Option Nat) (WT : Nat → Int32) (EX : Nat → Int32) (EY : Nat → Int32) (GR : Nat → Int32) (LV : Nat → Int32) (y1 : Int64) (y2 : Int64) (y3 : Int64) (y4 : Int64) (a : Nat → Nat) (I0 : Nat → Int32) (J0 : Nat → Int64) (kd : Nat → Int32) (st : Nat → Int32) (gb : Nat → Int32) (it : Nat → Int32) (pa : Nat → Int32) (pb : Nat → Int32) (rk : Nat → Int32) (wd : Nat → Int32) (tw : Nat → Int32) (tn : Nat → Int32) (mn : Nat → Int32) (cx : Nat → Int32) (cy : Nat → Int32) (sa : Nat → Int32) (shs : Nat → Int32) (wh : Nat → Int32) (of9 : Nat → Int32) (we : Nat → Int32) (la : Nat → Int32) (lb : Nat → Int32) (lc : Nat → Int32) (ld : Nat → Int32) (P0 : Nat → Int32) (Q0 : Nat → Int32) (S0 : Nat → Int32) (ox : Nat → Int32) (oy : Nat → Int32) (mt : Nat → Int32) (wi : Nat → Int32) (ins : Nat → Int32) (T0 : Nat → Int32) (fl : Nat → Int32) (mk : Nat → Int32) (jx : Nat → Int32) (jy : Nat → Int32) (gr : Nat → Int32) (bs : Nat) (dn : Nat) (T : Nat) (ft : Nat) (Sn : Nat) (AD : Nat) (C : Nat) (ln : Nat) (FT : Nat → Nat) (cc : Nat → Nat) (W9 : Nat → Nat) (V : Nat → Nat → Nat → Int32) (VX : Nat → Nat → Int32) (VY : Nat → Nat → Int32) (cp cl U k9 : Nat) (hk9 : 6 * k9 + 6 ≤ L9) (hL9 : L9 ≤ 3072) (f0 : Nat) (g0 : Nat) {H : Heap} {locs : List Loc} {ls : Array Slot} (hPD : zPD (dC, dI) classes (fun q : Nat => s.heap.size ≤ q) (((oc8 x (.ref sh) (.ref lw) (.ref ro) (.ref bq) (.ref bp) (.ref dq) (.ref dp) (.ref lv) (.ref sl) (nI dn) (nI bs) ul su) :: (oc10 sl mc9 (.ref ea) (nI T)) :: (oc7 sh (.ref fa) (nI ft)) :: (oq fa cF 200 FA) :: (oc3 lw (.ref dr) (.ref tg) (.ref wy) (.ref br) (.ref bo) (.ref aa)) :: (oc6 dr (.ref dx) (.ref dy) (nI nd) rd) :: (oa dx cI 40 P) :: (oa dy cI 40 Q) :: (oc6 tg (.ref tx) (.ref ty) (nI nt) rt) :: (oa tx cI 3 TX) :: (oa ty cI 3 TY) :: (oc6 wy (.ref wx) (.ref wz) (nI nw) rw) :: (oa wx cI 2 WX) :: (oa wz cI 2 WY) :: (oc0 br b1 b2 b3 b4) :: (oc0 bo b5 b6 b7 b8) :: (oa aa cI 40 AR) :: (oc5 ro (.ref za) (.ref zw) (.ref zx) (.ref zy) (.ref zg) nv) :: (oq za cF 200 RA) :: (oa zw cI 200 WT) :: (oa zx cI 400 EX) :: (oa zy cI 400 EY) :: (oa zg cI 400 GR) :: (oc0 bq c1 c2 c3 c4) :: (oc0 bp a1 a2 a3 a4) :: (oc2 dq y1 y2) :: (oc2 dp y3 y4) :: (oa lv cZ 200 LV) :: (om k0 a (upd I0 26 (nI ln)) J0) :: (oa (a 1) cI 201 kd) :: (oa (a 5) cI 201 st) :: (oa (a 7) cI 201 gb) :: (oa (a 10) cI 201 it) :: (oa (a 8) cI 201 pa) :: (oa (a 9) cI 201 pb) :: (oa (a 2) cI 201 rk) :: (oa (a 3) cI 201 wd) :: (oa (a 4) cI 201 tw) :: (oa (a 6) cZ 201 tn) :: (oa (a 11) cI 201 mn) :: (oa (a 12) cI 8040 cx) :: (oa (a 13) cI 8040 cy) :: (oa (a 27) cI 516 sa) :: (oa (a 28) cI (4096 * cp) shs) :: (oa (a 16) cI 514 wh) :: (oa (a 17) cI 514 of9) :: (oa (a 18) cI 514 we) :: (oa (a 22) cI (64 * cl) la) :: (oa (a 23) cI (64 * cl) lb) :: (oa (a 24) cI (64 * cl) lc) :: (oa (a 25) cI (64 * cl) ld) :: (oa (a 29) cI 42 P0) :: (oa (a 30) cI 42 Q0) :: (oa (a 32) cI 8 S0) :: (oa (a 33) cI 42 ox) :: (oa (a 34) cI 42 oy) :: (oa (a 37) cZ 201 mt) :: (oa (a 38) cZ 201 wi) :: (oa (a 39) cZ 8040 ins) :: (oa (a 40) cI 6 T0) :: (oa (a 43) cZ 40 fl) :: (oa (a 50) cZ 201 mk) :: (oa (a 51) cI 402 jx) :: (oa (a 52) cI 402 jy) :: (oa (a 53) cI 402 gr) :: []) ++ va_pl L f) H) (hS : va_S (fun q : Nat => s.heap.size ≤ q) s.heap H locs) (hl : lv_has ls 4 [(3, .int (nI (6 * k9))), (2, .ref k0), (1, .ref x), (0, .ref b)]) (hB : shB cI cO L f e0 FA ea bs dn T ft FT V VX VY tn rk wd tw pa pb wh of9 we kd st gb it mn cx cy) (hI : INV k9 Sn AD C cc W9 bs T ft cp ln cl FT V VX VY tn rk wd tw pa pb kd st it mn cx cy sa shs lb lc) (hM : I0 0 = nI ft ∧ I0 19 = nI dn ∧ I0 20 = nI (T - dn) ∧ I0 21 = nI bs) (hU : U ≤ Sn * (28 * (AD + C) + 1000) + 200 * (AD + C)) (hf0 : f0 < ft) (hv1 : xs (6 * k9 + 1) = nI f0) (hg0 : g0 < ft) (hv2 : xs (6 * k9 + 2) = nI g0) (hgf : g0 ≠ f0) (hll : (lvF ft st tn f0 ∧ lvF ft st tn g0)) (hnext : ∀ (cp1 cl1 U1 : Nat) (H : Heap) (locs : List Loc) (ls : Array Slot), lawI s dC dI cI cZ cF cO e0 mi x sl sh fa lw dr dx dy tg tx ty wy wx wz br bo aa ro za zw zx zy zg bq bp dq dp lv k0 (k9 + 1) cp1 cl1 U1 H → va_S (fun q : Nat => s.heap.size ≤ q) s.heap H locs → lv_has ls 4 [(3, .int (nI (6 * k9))), (2, .ref k0), (1, .ref x), (0, .ref b)] → W p l e room_1 s m #[Value.ref b] below meth c H locs (1000 + 1010 * (k9 + 1) + cp1 + 4 * cl1) (45000 + 8192 * cp1 + 512 * cl1 + U1) (lw_Z below #[Value.ref b] s) (F0 m 1081 ls [])) : W p l e room_1 s m #[Value.ref b] below meth c H locs (1000 + 1010 * k9 + cp + 4 * cl) (45000 + 8192 * cp + 512 * cl + U) (lw_Z below #[Value.ref b] s) (F0 m 642 ls []) := by
  obtain ⟨hP, hD⟩ := hPD
  obtain ⟨hx, hb, hr, hml, hown, hts1, hX, hbl, hlocks, hgv⟩ := id C0
  have hts : ∀ w9 ∈ ws0, w9.before #[Value.ref b] s = true := fun w9 h => hts1 w9 (List.mem_filter.mp h).1
  have hA : ∀ q : Nat, s.heap.size ≤ q → (fun q : Nat => s.heap.size ≤ q) q := fun _ h => h
  have hbA : ¬ (fun q : Nat => s.heap.size ≤ q) b := Nat.not_le.mpr hbl
  have hXN := hXL.1
  have hK3 := hK.sub [0, 1, 2] rfl
  obtain ⟨hm0, hm19, hm20, hm21⟩ := hM
  have hpo := shB_po hB
  have hK512 : k9 + 1 ≤ 512 := r9_k hk9 hL9
  have hwfS := hI.1.1
  have hbdC := hI.1.2.2.1
  have hT0 := hI.1.2.2.2
  have hd9 := hpo.1
  have h200t : ∀ t, bs ≤ t → t ≤ T → FT t ≤ 200 := fun t t1 t2 => Nat.le_trans (hpo.2.1 t T t1 t2 (Nat.le_refl _)) hd9.2.2.2.2
  have h200f : ft ≤ 200 := (by rw [hd9.2.2.2.1]; exact h200t dn hd9.1 hd9.2.1)
  have hrkA : ∀ q, lvF ft st tn q → 0 ≤ (rk q).toInt ∧ (rk q).toInt ≤ 9 := fun q hq => (hI.1.2.1 q (Nat.lt_of_lt_of_le hq.1 (by rw [hd9.2.2.2.1]; exact hpo.2.1 dn T hd9.1 hd9.2.1 (Nat.le_refl _)))).1
  have hwdA : ∀ q, q < ft → 0 ≤ (wd q).toInt ∧ (wd q).toInt ≤ 100 := fun q hq => (hI.1.2.1 q (Nat.lt_of_lt_of_le hq (by rw [hd9.2.2.2.1]; exact hpo.2.1 dn T hd9.1 hd9.2.1 (Nat.le_refl _)))).2
  have hcp5 := INV_cp hI (Nat.le_of_succ_le hK512)
  have hcp1 := hI.2.2.1.2.1
  have hcnt := hI.2.2.2.1
  have hlst := hI.2.2.2.2
  have hlb := mul_514 (a := Sn) (b := C) (r9_s hcnt.2.1 hK512).2.1
  have hftA := bdC_F hbdC
  have hrm := room_c (Sn := Sn) (AD := AD) (C := C) (c := cp) (cl := cl) (U := U) (r9_s hcnt.2.1 hK512).1 hI.2.2.1.2.2.2.2.2 hlst.2.2.2.1 hU
  have hrc : 1000 + 1010 * k9 + cp + 4 * cl ≤ 600000 := (by omega)
  have hefA : ∀ q, lvF ft st tn q → 1 ≤ eO (kd q).toInt (nN (mn q)) := fun q hq => eO_1 (wfS_kn hwfS q hq)
  refine la_16_1 l C0 hk9 hL9 hS hl (hv1) (hv2) ?_
  obtain ⟨hPc, hDc, hFc⟩ := zt_6 hP hD hS hA
  refine zcall (st1 := [.int (pI (mtF (kd f0).toInt (nN (mn f0)) (cF40 cx f0) (cF40 cy f0) (kd g0).toInt (nN (mn g0)) (cF40 cx g0) (cF40 cy g0)))]) (va_runV (As := [.int (nI f0), .int (nI g0)]) (rest := []) ⟨hx, hb, hml, hown, hts⟩ (k_meets_y l dC dI cI cZ cF H.size cO e0 mi x sh lw ro bq bp dq dp lv sl (nI bs) ul su ea mc9 fa FA bs dn T ft FT V VX VY tn rk wd tw pa pb wh of9 we kd st gb it mn cx cy L f f0 g0 (hB) (hf0) (hll.1.2.2) (hg0) (hll.2.2.2) (hgf) (hll.1.2.1) (hll.2.2.1) (wfS_wf hwfS) (wfS_kn hwfS)) (csV_275 hts rfl rfl ⟨Nat.le_of_ble_eq_true rfl, Nat.le_of_ble_eq_true rfl⟩) (zPVL (q0 := 0) (ci := 8) hPc hDc hK hXL hS hFc rfl rfl) rfl rfl hl.1 rfl (lv_room (Nat.le_of_ble_eq_true rfl)) dL_law_653 ⟨hrc, hrm⟩) hS hFc hFc rfl (fun t H locs ht hB hk1 hS => ?_)
  obtain ⟨hP1, hD1⟩ := hB
  rw [ht] at hP1
  obtain ⟨hP, hD⟩ := zs_6  hP hD hk1 hFc hP1 hD1
  clear hk1 hPc hDc hFc hP1 hD1 ht
  refine lv_pop hx hb dL_law_656 rfl ?_
  refine la_16_2 l C0 hk9 hL9 hS hl (hv1) (hv2) ?_
  obtain ⟨hPc, hDc, hFc⟩ := zt_7 hP hD hS hA
  refine zcall (st1 := [.int (pI (lvF ft st tn f0 ∧ lvF ft st tn g0 ∧ mtF (kd f0).toInt (nN (mn f0)) (cF40 cx f0) (cF40 cy f0) (kd g0).toInt (nN (mn g0)) (cF40 cx g0) (cF40 cy g0)))]) (va_runV (As := [.int (nI f0), .int (nI g0)]) (rest := []) ⟨hx, hb, hml, hown, hts⟩ (k_M_meets l dC dI cI cZ cF H.size k0 a (upd I0 26 (nI ln)) J0 f0 g0 ft st tn kd mn cx cy S0 (hm0) (h200f) (wfS_wf hwfS) (hf0) (hg0)) (csV_276 hts rfl rfl ⟨Nat.le_of_ble_eq_true rfl, Nat.le_of_ble_eq_true rfl⟩) (zPV2 (q0 := 0) (ci := 9) hPc hDc hK3 hXN rfl rfl) rfl rfl hl.1 rfl (lv_room (Nat.le_of_ble_eq_true rfl)) dL_law_668 ⟨hrc, hrm⟩) hS hFc hFc rfl (fun t H locs ht hB hk1 hS => ?_)
  obtain ⟨q_1, hP1, hD1⟩ := hB
  rw [ht] at hP1
  obtain ⟨hP, hD⟩ := zs_7 (u53 := (oa (a 32) cI 8 q_1)) hP hD hk1 hFc hP1 hD1
  clear hk1 hPc hDc hFc hP1 hD1 ht
  refine lv_pop hx hb dL_law_671 rfl ?_
  refine lv_goto (tgt := 1081) hx hb dL_law_672 rfl ?_
  obtain ⟨hP9, hD9⟩ := And.intro hP hD
  refine W.widen (k := 1000 + 1010 * (k9 + 1) + cp + 4 * cl) (n := 45000 + 8192 * cp + 512 * cl + U) (by first | exact wdK | omega) (by first | exact Nat.le_refl _ | omega) ?_
  exact hnext cp cl U H locs ls (lawI_in L f FA ea nd nt nw ul su mc9 rd rt rw P Q TX TY WX WY AR b1 b2 b3 b4 b5 b6 b7 b8 c1 c2 c3 c4 a1 a2 a3 a4 nv RA WT EX EY GR LV y1 y2 y3 y4 a I0 J0 kd st gb it pa pb rk wd tw tn mn cx cy sa shs wh of9 we la lb lc ld P0 Q0 q_1 ox oy mt wi ins T0 fl mk jx jy gr bs dn T ft Sn AD C ln FT cc W9 V VX VY hP9 hD9 (hB) (INV_K hI) ⟨hm0, hm19, hm20, hm21⟩ (by first | exact hU | omega)) hS (lv_sub hl [0, 1, 2, 3] rfl)
set_option maxHeartbeats 4000000 in
set_option maxRecDepth 100000 in
theorem lc_near_x1 {p : Program} {e : Env} {s : State} {m : MethodId} {below : List Frame} {meth : Method} {c : Code} (l : Launch) {b L9 : Nat} {xs : Nat → Int32} (C0 : lw_At p s m meth c b L9 xs) (dC : Nat → ClassId) (dI : Nat → Nat → Nat) (cI cZ cF cO : ClassId) (e0 mi : Nat) (x sl sh fa lw dr dx dy tg tx ty wy wx wz br bo aa ro za zw zx zy zg bq bp dq dp lv k0 : Nat) (hK : va_K (dC, dI) classes (zTyO cI cZ cF cO) s) (hXL : zXL e0 mi (fun q : Nat => s.heap.size ≤ q) s) (L : List Nat) (f : Nat → va_E) (FA : Nat → Option Nat) (ea : Nat) (nd : Nat) (nt : Nat) (nw : Nat) (ul : Int32) (su : Int32) (mc9 : Int32) (rd : Int32) (rt : Int32) (rw : Int32) (P : Nat → Int32) (Q : Nat → Int32) (TX : Nat → Int32) (TY : Nat → Int32) (WX : Nat → Int32) (WY : Nat → Int32) (AR : Nat → Int32) (b1 : Int32) (b2 : Int32) (b3 : Int32) (b4 : Int32) (b5 : Int32) (b6 : Int32) (b7 : Int32) (b8 : Int32) (c1 : Int32) (c2 : Int32) (c3 : Int32) (c4 : Int32) (a1 : Int32) (a2 : Int32) (a3 : Int32) (a4 : Int32) (nv : Int32) (RA : Nat → Option Nat) (WT : Nat → Int32) (EX : Nat → Int32) (EY : Nat → Int32) (GR : Nat → Int32) (LV : Nat → Int32) (y1 : Int64) (y2 : Int64) (y3 : Int64) (y4 : Int64) (a : Nat → Nat) (I0 : Nat → Int32) (J0 : Nat → Int64) (kd : Nat → Int32) (st : Nat → Int32) (gb : Nat → Int32) (it : Nat → Int32) (pa : Nat → Int32) (pb : Nat → Int32) (rk : Nat → Int32) (wd : Nat → Int32) (tw : Nat → Int32) (tn : Nat → Int32) (mn : Nat → Int32) (cx : Nat → Int32) (cy : Nat → Int32) (sa : Nat → Int32) (shs : Nat → Int32) (wh : Nat → Int32) (of9 : Nat → Int32) (we : Nat → Int32) (la : Nat → Int32) (lb : Nat → Int32) (lc : Nat → Int32) (ld : Nat → Int32) (P0 : Nat → Int32) (Q0 : Nat → Int32) (S0 : Nat → Int32) (ox : Nat → Int32) (oy : Nat → Int32) (mt : Nat → Int32) (wi : Nat → Int32) (ins : Nat → Int32) (T0 : Nat → Int32) (fl : Nat → Int32) (mk : Nat → Int32) (jx : Nat → Int32) (jy : Nat → Int32) (gr : Nat → Int32) (bs : Nat) (dn : Nat) (T : Nat) (ft : Nat) (Sn : Nat) (AD : Nat) (C : Nat) (ln : Nat) (FT : Nat → Nat) (cc : Nat → Nat) (W9 : Nat → Nat) (V : Nat → Nat → Nat → Int32) (VX : Nat → Nat → Int32) (VY : Nat → Nat → Int32) (cp cl U k9 : Nat) (hk9 : 6 * k9 + 6 ≤ L9) (hL9 : L9 ≤ 3072) {H : Heap} {locs : List Loc} {ls : Array Slot} (hPD : zPD (dC, dI) classes (fun q : Nat => s.heap.size ≤ q) (((oc8 x (.ref sh) (.ref lw) (.ref ro) (.ref bq) (.ref bp) (.ref dq) (.ref dp) (.ref lv) (.ref sl) (nI dn) (nI bs) ul su) :: (oc10 sl mc9 (.ref ea) (nI T)) :: (oc7 sh (.ref fa) (nI ft)) :: (oq fa cF 200 FA) :: (oc3 lw (.ref dr) (.ref tg) (.ref wy) (.ref br) (.ref bo) (.ref aa)) :: (oc6 dr (.ref dx) (.ref dy) (nI nd) rd) :: (oa dx cI 40 P) :: (oa dy cI 40 Q) :: (oc6 tg (.ref tx) (.ref ty) (nI nt) rt) :: (oa tx cI 3 TX) :: (oa ty cI 3 TY) :: (oc6 wy (.ref wx) (.ref wz) (nI nw) rw) :: (oa wx cI 2 WX) :: (oa wz cI 2 WY) :: (oc0 br b1 b2 b3 b4) :: (oc0 bo b5 b6 b7 b8) :: (oa aa cI 40 AR) :: (oc5 ro (.ref za) (.ref zw) (.ref zx) (.ref zy) (.ref zg) nv) :: (oq za cF 200 RA) :: (oa zw cI 200 WT) :: (oa zx cI 400 EX) :: (oa zy cI 400 EY) :: (oa zg cI 400 GR) :: (oc0 bq c1 c2 c3 c4) :: (oc0 bp a1 a2 a3 a4) :: (oc2 dq y1 y2) :: (oc2 dp y3 y4) :: (oa lv cZ 200 LV) :: (om k0 a (upd I0 26 (nI ln)) J0) :: (oa (a 1) cI 201 kd) :: (oa (a 5) cI 201 st) :: (oa (a 7) cI 201 gb) :: (oa (a 10) cI 201 it) :: (oa (a 8) cI 201 pa) :: (oa (a 9) cI 201 pb) :: (oa (a 2) cI 201 rk) :: (oa (a 3) cI 201 wd) :: (oa (a 4) cI 201 tw) :: (oa (a 6) cZ 201 tn) :: (oa (a 11) cI 201 mn) :: (oa (a 12) cI 8040 cx) :: (oa (a 13) cI 8040 cy) :: (oa (a 27) cI 516 sa) :: (oa (a 28) cI (4096 * cp) shs) :: (oa (a 16) cI 514 wh) :: (oa (a 17) cI 514 of9) :: (oa (a 18) cI 514 we) :: (oa (a 22) cI (64 * cl) la) :: (oa (a 23) cI (64 * cl) lb) :: (oa (a 24) cI (64 * cl) lc) :: (oa (a 25) cI (64 * cl) ld) :: (oa (a 29) cI 42 P0) :: (oa (a 30) cI 42 Q0) :: (oa (a 32) cI 8 S0) :: (oa (a 33) cI 42 ox) :: (oa (a 34) cI 42 oy) :: (oa (a 37) cZ 201 mt) :: (oa (a 38) cZ 201 wi) :: (oa (a 39) cZ 8040 ins) :: (oa (a 40) cI 6 T0) :: (oa (a 43) cZ 40 fl) :: (oa (a 50) cZ 201 mk) :: (oa (a 51) cI 402 jx) :: (oa (a 52) cI 402 jy) :: (oa (a 53) cI 402 gr) :: []) ++ va_pl L f) H) (hS : va_S (fun q : Nat => s.heap.size ≤ q) s.heap H locs) (hl : lv_has ls 4 [(3, .int (nI (6 * k9))), (2, .ref k0), (1, .ref x), (0, .ref b)]) (hB : shB cI cO L f e0 FA ea bs dn T ft FT V VX VY tn rk wd tw pa pb wh of9 we kd st gb it mn cx cy) (hI : INV k9 Sn AD C cc W9 bs T ft cp ln cl FT V VX VY tn rk wd tw pa pb kd st it mn cx cy sa shs lb lc) (hM : I0 0 = nI ft ∧ I0 19 = nI dn ∧ I0 20 = nI (T - dn) ∧ I0 21 = nI bs) (hU : U ≤ Sn * (28 * (AD + C) + 1000) + 200 * (AD + C)) (hbad : ¬ (0 ≤ (xs (6 * k9 + 1)).toInt ∧ (xs (6 * k9 + 1)).toInt < ((ft : Nat) : Int))) (hnext : ∀ (cp1 cl1 U1 : Nat) (H : Heap) (locs : List Loc) (ls : Array Slot), lawI s dC dI cI cZ cF cO e0 mi x sl sh fa lw dr dx dy tg tx ty wy wx wz br bo aa ro za zw zx zy zg bq bp dq dp lv k0 (k9 + 1) cp1 cl1 U1 H → va_S (fun q : Nat => s.heap.size ≤ q) s.heap H locs → lv_has ls 4 [(3, .int (nI (6 * k9))), (2, .ref k0), (1, .ref x), (0, .ref b)] → W p l e room_1 s m #[Value.ref b] below meth c H locs (1000 + 1010 * (k9 + 1) + cp1 + 4 * cl1) (45000 + 8192 * cp1 + 512 * cl1 + U1) (lw_Z below #[Value.ref b] s) (F0 m 1081 ls [])) : W p l e room_1 s m #[Value.ref b] below meth c H locs (1000 + 1010 * k9 + cp + 4 * cl) (45000 + 8192 * cp + 512 * cl + U) (lw_Z below #[Value.ref b] s) (F0 m 771 ls []) := by
  obtain ⟨hP, hD⟩ := hPD
  obtain ⟨hx, hb, hr, hml, hown, hts1, hX, hbl, hlocks, hgv⟩ := id C0
  have hts : ∀ w9 ∈ ws0, w9.before #[Value.ref b] s = true := fun w9 h => hts1 w9 (List.mem_filter.mp h).1
  have hA : ∀ q : Nat, s.heap.size ≤ q → (fun q : Nat => s.heap.size ≤ q) q := fun _ h => h
  have hbA : ¬ (fun q : Nat => s.heap.size ≤ q) b := Nat.not_le.mpr hbl
  have hXN := hXL.1
  have hK3 := hK.sub [0, 1, 2] rfl
  obtain ⟨hm0, hm19, hm20, hm21⟩ := hM
  have hpo := shB_po hB
  have hK512 : k9 + 1 ≤ 512 := r9_k hk9 hL9
  have hwfS := hI.1.1
  have hbdC := hI.1.2.2.1
  have hT0 := hI.1.2.2.2
  have hd9 := hpo.1
  have h200t : ∀ t, bs ≤ t → t ≤ T → FT t ≤ 200 := fun t t1 t2 => Nat.le_trans (hpo.2.1 t T t1 t2 (Nat.le_refl _)) hd9.2.2.2.2
  have h200f : ft ≤ 200 := (by rw [hd9.2.2.2.1]; exact h200t dn hd9.1 hd9.2.1)
  have hrkA : ∀ q, lvF ft st tn q → 0 ≤ (rk q).toInt ∧ (rk q).toInt ≤ 9 := fun q hq => (hI.1.2.1 q (Nat.lt_of_lt_of_le hq.1 (by rw [hd9.2.2.2.1]; exact hpo.2.1 dn T hd9.1 hd9.2.1 (Nat.le_refl _)))).1
  have hwdA : ∀ q, q < ft → 0 ≤ (wd q).toInt ∧ (wd q).toInt ≤ 100 := fun q hq => (hI.1.2.1 q (Nat.lt_of_lt_of_le hq (by rw [hd9.2.2.2.1]; exact hpo.2.1 dn T hd9.1 hd9.2.1 (Nat.le_refl _)))).2
  have hcp5 := INV_cp hI (Nat.le_of_succ_le hK512)
  have hcp1 := hI.2.2.1.2.1
  have hcnt := hI.2.2.2.1
  have hlst := hI.2.2.2.2
  have hlb := mul_514 (a := Sn) (b := C) (r9_s hcnt.2.1 hK512).2.1
  have hftA := bdC_F hbdC
  have hrm := room_c (Sn := Sn) (AD := AD) (C := C) (c := cp) (cl := cl) (U := U) (r9_s hcnt.2.1 hK512).1 hI.2.2.1.2.2.2.2.2 hlst.2.2.2.1 hU
  have hrc : 1000 + 1010 * k9 + cp + 4 * cl ≤ 600000 := (by omega)
  have hefA : ∀ q, lvF ft st tn q → 1 ≤ eO (kd q).toInt (nN (mn q)) := fun q hq => eO_1 (wfS_kn hwfS q hq)
  refine la_19_1 l C0 hk9 hL9 hS hl (rfl) (rfl) (rfl) ?_
  obtain ⟨hPc, hDc, hFc⟩ := zt_3 hP hD hS hA
  refine zcall (st1 := [.long (-1)]) (va_runV (As := [.int (xs (6 * k9 + 1)), .int (xs (6 * k9 + 2)), .int (xs (6 * k9 + 3))]) (rest := []) ⟨hx, hb, hml, hown, hts⟩ (k_near_z l dC dI cI cZ cF H.size x sh lw ro bq bp dq dp lv sl (nI bs) ul su (nI dn) fa ft FA L f kd st tn mn cx cy rk wd tw pa pb gb it (xs (6 * k9 + 1)) (xs (6 * k9 + 2)) (xs (6 * k9 + 3)) (h200f) (shB_va hB) (fun ⟨⟨g, e, hg⟩, _⟩ => nI_bad h200f hbad hg.1 e)) (csV_277 hts rfl rfl ⟨Nat.le_of_ble_eq_true rfl, Nat.le_of_ble_eq_true rfl⟩) (zPV2 (q0 := 0) (ci := 8) hPc hDc hK3 hXN rfl rfl) rfl rfl hl.1 rfl (lv_room (Nat.le_of_ble_eq_true rfl)) dL_law_787 ⟨hrc, hrm⟩) hS hFc hFc rfl (fun t H locs ht hB hk1 hS => ?_)
  obtain ⟨hP1, hD1⟩ := hB
  rw [ht] at hP1
  obtain ⟨hP, hD⟩ := zs_3  hP hD hk1 hFc hP1 hD1
  clear hk1 hPc hDc hFc hP1 hD1 ht
  refine lv_pop2_2 hx hb dL_law_790 rfl ?_
  refine la_19_2 l C0 hk9 hL9 hS hl (rfl) (rfl) (rfl) ?_
  obtain ⟨hPc, hDc, hFc⟩ := zt_2 hP hD hS hA
  refine zcall (st1 := [.long (-1)]) (va_runV (As := [.int (xs (6 * k9 + 1)), .int (xs (6 * k9 + 2)), .int (xs (6 * k9 + 3))]) (rest := []) ⟨hx, hb, hml, hown, hts⟩ (k_M_near_x1 l dC dI cI cZ cF H.size k0 a (upd I0 26 (nI ln)) J0 ft (xs (6 * k9 + 1)) (xs (6 * k9 + 2)) (xs (6 * k9 + 3)) (hm0) (h200f) (hbad)) (csV_278 hts rfl rfl ⟨Nat.le_of_ble_eq_true rfl, Nat.le_of_ble_eq_true rfl⟩) (zPV2 (q0 := 0) (ci := 9) hPc hDc hK3 hXN rfl rfl) rfl rfl hl.1 rfl (lv_room (Nat.le_of_ble_eq_true rfl)) dL_law_807 ⟨hrc, hrm⟩) hS hFc hFc rfl (fun t H locs ht hB hk1 hS => ?_)
  obtain ⟨hP1, hD1⟩ := hB
  rw [ht] at hP1
  obtain ⟨hP, hD⟩ := zs_2  hP hD hk1 hFc hP1 hD1
  clear hk1 hPc hDc hFc hP1 hD1 ht
  refine lv_pop2_2 hx hb dL_law_810 rfl ?_
  refine lv_goto (tgt := 1081) hx hb dL_law_811 rfl ?_
  obtain ⟨hP9, hD9⟩ := And.intro hP hD
  refine W.widen (k := 1000 + 1010 * (k9 + 1) + cp + 4 * cl) (n := 45000 + 8192 * cp + 512 * cl + U) (by first | exact wdK | omega) (by first | exact Nat.le_refl _ | omega) ?_
  exact hnext cp cl U H locs ls (lawI_in L f FA ea nd nt nw ul su mc9 rd rt rw P Q TX TY WX WY AR b1 b2 b3 b4 b5 b6 b7 b8 c1 c2 c3 c4 a1 a2 a3 a4 nv RA WT EX EY GR LV y1 y2 y3 y4 a I0 J0 kd st gb it pa pb rk wd tw tn mn cx cy sa shs wh of9 we la lb lc ld P0 Q0 S0 ox oy mt wi ins T0 fl mk jx jy gr bs dn T ft Sn AD C ln FT cc W9 V VX VY hP9 hD9 (hB) (INV_K hI) ⟨hm0, hm19, hm20, hm21⟩ (by first | exact hU | omega)) hS (lv_sub hl [0, 1, 2, 3] rfl)
set_option maxHeartbeats 4000000 in
set_option maxRecDepth 100000 in
theorem lc_near_x2 {p : Program} {e : Env} {s : State} {m : MethodId} {below : List Frame} {meth : Method} {c : Code} (l : Launch) {b L9 : Nat} {xs : Nat → Int32} (C0 : lw_At p s m meth c b L9 xs) (dC : Nat → ClassId) (dI : Nat → Nat → Nat) (cI cZ cF cO : ClassId) (e0 mi : Nat) (x sl sh fa lw dr dx dy tg tx ty wy wx wz br bo aa ro za zw zx zy zg bq bp dq dp lv k0 : Nat) (hK : va_K (dC, dI) classes (zTyO cI cZ cF cO) s) (hXL : zXL e0 mi (fun q : Nat => s.heap.size ≤ q) s) (L : List Nat) (f : Nat → va_E) (FA : Nat → Option Nat) (ea : Nat) (nd : Nat) (nt : Nat) (nw : Nat) (ul : Int32) (su : Int32) (mc9 : Int32) (rd : Int32) (rt : Int32) (rw : Int32) (P : Nat → Int32) (Q : Nat → Int32) (TX : Nat → Int32) (TY : Nat → Int32) (WX : Nat → Int32) (WY : Nat → Int32) (AR : Nat → Int32) (b1 : Int32) (b2 : Int32) (b3 : Int32) (b4 : Int32) (b5 : Int32) (b6 : Int32) (b7 : Int32) (b8 : Int32) (c1 : Int32) (c2 : Int32) (c3 : Int32) (c4 : Int32) (a1 : Int32) (a2 : Int32) (a3 : Int32) (a4 : Int32) (nv : Int32) (RA : Nat → Option Nat) (WT : Nat → Int32) (EX : Nat → Int32) (EY : Nat → Int32) (GR : Nat → Int32) (LV : Nat → Int32) (y1 : Int64) (y2 : Int64) (y3 : Int64) (y4 : Int64) (a : Nat → Nat) (I0 : Nat → Int32) (J0 : Nat → Int64) (kd : Nat → Int32) (st : Nat → Int32) (gb : Nat → Int32) (it : Nat → Int32) (pa : Nat → Int32) (pb : Nat → Int32) (rk : Nat → Int32) (wd : Nat → Int32) (tw : Nat → Int32) (tn : Nat → Int32) (mn : Nat → Int32) (cx : Nat → Int32) (cy : Nat → Int32) (sa : Nat → Int32) (shs : Nat → Int32) (wh : Nat → Int32) (of9 : Nat → Int32) (we : Nat → Int32) (la : Nat → Int32) (lb : Nat → Int32) (lc : Nat → Int32) (ld : Nat → Int32) (P0 : Nat → Int32) (Q0 : Nat → Int32) (S0 : Nat → Int32) (ox : Nat → Int32) (oy : Nat → Int32) (mt : Nat → Int32) (wi : Nat → Int32) (ins : Nat → Int32) (T0 : Nat → Int32) (fl : Nat → Int32) (mk : Nat → Int32) (jx : Nat → Int32) (jy : Nat → Int32) (gr : Nat → Int32) (bs : Nat) (dn : Nat) (T : Nat) (ft : Nat) (Sn : Nat) (AD : Nat) (C : Nat) (ln : Nat) (FT : Nat → Nat) (cc : Nat → Nat) (W9 : Nat → Nat) (V : Nat → Nat → Nat → Int32) (VX : Nat → Nat → Int32) (VY : Nat → Nat → Int32) (cp cl U k9 : Nat) (hk9 : 6 * k9 + 6 ≤ L9) (hL9 : L9 ≤ 3072) (f0 : Nat) {H : Heap} {locs : List Loc} {ls : Array Slot} (hPD : zPD (dC, dI) classes (fun q : Nat => s.heap.size ≤ q) (((oc8 x (.ref sh) (.ref lw) (.ref ro) (.ref bq) (.ref bp) (.ref dq) (.ref dp) (.ref lv) (.ref sl) (nI dn) (nI bs) ul su) :: (oc10 sl mc9 (.ref ea) (nI T)) :: (oc7 sh (.ref fa) (nI ft)) :: (oq fa cF 200 FA) :: (oc3 lw (.ref dr) (.ref tg) (.ref wy) (.ref br) (.ref bo) (.ref aa)) :: (oc6 dr (.ref dx) (.ref dy) (nI nd) rd) :: (oa dx cI 40 P) :: (oa dy cI 40 Q) :: (oc6 tg (.ref tx) (.ref ty) (nI nt) rt) :: (oa tx cI 3 TX) :: (oa ty cI 3 TY) :: (oc6 wy (.ref wx) (.ref wz) (nI nw) rw) :: (oa wx cI 2 WX) :: (oa wz cI 2 WY) :: (oc0 br b1 b2 b3 b4) :: (oc0 bo b5 b6 b7 b8) :: (oa aa cI 40 AR) :: (oc5 ro (.ref za) (.ref zw) (.ref zx) (.ref zy) (.ref zg) nv) :: (oq za cF 200 RA) :: (oa zw cI 200 WT) :: (oa zx cI 400 EX) :: (oa zy cI 400 EY) :: (oa zg cI 400 GR) :: (oc0 bq c1 c2 c3 c4) :: (oc0 bp a1 a2 a3 a4) :: (oc2 dq y1 y2) :: (oc2 dp y3 y4) :: (oa lv cZ 200 LV) :: (om k0 a (upd I0 26 (nI ln)) J0) :: (oa (a 1) cI 201 kd) :: (oa (a 5) cI 201 st) :: (oa (a 7) cI 201 gb) :: (oa (a 10) cI 201 it) :: (oa (a 8) cI 201 pa) :: (oa (a 9) cI 201 pb) :: (oa (a 2) cI 201 rk) :: (oa (a 3) cI 201 wd) :: (oa (a 4) cI 201 tw) :: (oa (a 6) cZ 201 tn) :: (oa (a 11) cI 201 mn) :: (oa (a 12) cI 8040 cx) :: (oa (a 13) cI 8040 cy) :: (oa (a 27) cI 516 sa) :: (oa (a 28) cI (4096 * cp) shs) :: (oa (a 16) cI 514 wh) :: (oa (a 17) cI 514 of9) :: (oa (a 18) cI 514 we) :: (oa (a 22) cI (64 * cl) la) :: (oa (a 23) cI (64 * cl) lb) :: (oa (a 24) cI (64 * cl) lc) :: (oa (a 25) cI (64 * cl) ld) :: (oa (a 29) cI 42 P0) :: (oa (a 30) cI 42 Q0) :: (oa (a 32) cI 8 S0) :: (oa (a 33) cI 42 ox) :: (oa (a 34) cI 42 oy) :: (oa (a 37) cZ 201 mt) :: (oa (a 38) cZ 201 wi) :: (oa (a 39) cZ 8040 ins) :: (oa (a 40) cI 6 T0) :: (oa (a 43) cZ 40 fl) :: (oa (a 50) cZ 201 mk) :: (oa (a 51) cI 402 jx) :: (oa (a 52) cI 402 jy) :: (oa (a 53) cI 402 gr) :: []) ++ va_pl L f) H) (hS : va_S (fun q : Nat => s.heap.size ≤ q) s.heap H locs) (hl : lv_has ls 4 [(3, .int (nI (6 * k9))), (2, .ref k0), (1, .ref x), (0, .ref b)]) (hB : shB cI cO L f e0 FA ea bs dn T ft FT V VX VY tn rk wd tw pa pb wh of9 we kd st gb it mn cx cy) (hI : INV k9 Sn AD C cc W9 bs T ft cp ln cl FT V VX VY tn rk wd tw pa pb kd st it mn cx cy sa shs lb lc) (hM : I0 0 = nI ft ∧ I0 19 = nI dn ∧ I0 20 = nI (T - dn) ∧ I0 21 = nI bs) (hU : U ≤ Sn * (28 * (AD + C) + 1000) + 200 * (AD + C)) (hf0 : f0 < ft) (hv1 : xs (6 * k9 + 1) = nI f0) (hbad : ¬ (0 ≤ (xs (6 * k9 + 2)).toInt ∧ (xs (6 * k9 + 2)).toInt < ((ft : Nat) : Int))) (hnext : ∀ (cp1 cl1 U1 : Nat) (H : Heap) (locs : List Loc) (ls : Array Slot), lawI s dC dI cI cZ cF cO e0 mi x sl sh fa lw dr dx dy tg tx ty wy wx wz br bo aa ro za zw zx zy zg bq bp dq dp lv k0 (k9 + 1) cp1 cl1 U1 H → va_S (fun q : Nat => s.heap.size ≤ q) s.heap H locs → lv_has ls 4 [(3, .int (nI (6 * k9))), (2, .ref k0), (1, .ref x), (0, .ref b)] → W p l e room_1 s m #[Value.ref b] below meth c H locs (1000 + 1010 * (k9 + 1) + cp1 + 4 * cl1) (45000 + 8192 * cp1 + 512 * cl1 + U1) (lw_Z below #[Value.ref b] s) (F0 m 1081 ls [])) : W p l e room_1 s m #[Value.ref b] below meth c H locs (1000 + 1010 * k9 + cp + 4 * cl) (45000 + 8192 * cp + 512 * cl + U) (lw_Z below #[Value.ref b] s) (F0 m 771 ls []) := by
  obtain ⟨hP, hD⟩ := hPD
  obtain ⟨hx, hb, hr, hml, hown, hts1, hX, hbl, hlocks, hgv⟩ := id C0
  have hts : ∀ w9 ∈ ws0, w9.before #[Value.ref b] s = true := fun w9 h => hts1 w9 (List.mem_filter.mp h).1
  have hA : ∀ q : Nat, s.heap.size ≤ q → (fun q : Nat => s.heap.size ≤ q) q := fun _ h => h
  have hbA : ¬ (fun q : Nat => s.heap.size ≤ q) b := Nat.not_le.mpr hbl
  have hXN := hXL.1
  have hK3 := hK.sub [0, 1, 2] rfl
  obtain ⟨hm0, hm19, hm20, hm21⟩ := hM
  have hpo := shB_po hB
  have hK512 : k9 + 1 ≤ 512 := r9_k hk9 hL9
  have hwfS := hI.1.1
  have hbdC := hI.1.2.2.1
  have hT0 := hI.1.2.2.2
  have hd9 := hpo.1
  have h200t : ∀ t, bs ≤ t → t ≤ T → FT t ≤ 200 := fun t t1 t2 => Nat.le_trans (hpo.2.1 t T t1 t2 (Nat.le_refl _)) hd9.2.2.2.2
  have h200f : ft ≤ 200 := (by rw [hd9.2.2.2.1]; exact h200t dn hd9.1 hd9.2.1)
  have hrkA : ∀ q, lvF ft st tn q → 0 ≤ (rk q).toInt ∧ (rk q).toInt ≤ 9 := fun q hq => (hI.1.2.1 q (Nat.lt_of_lt_of_le hq.1 (by rw [hd9.2.2.2.1]; exact hpo.2.1 dn T hd9.1 hd9.2.1 (Nat.le_refl _)))).1
  have hwdA : ∀ q, q < ft → 0 ≤ (wd q).toInt ∧ (wd q).toInt ≤ 100 := fun q hq => (hI.1.2.1 q (Nat.lt_of_lt_of_le hq (by rw [hd9.2.2.2.1]; exact hpo.2.1 dn T hd9.1 hd9.2.1 (Nat.le_refl _)))).2
  have hcp5 := INV_cp hI (Nat.le_of_succ_le hK512)
  have hcp1 := hI.2.2.1.2.1
  have hcnt := hI.2.2.2.1
  have hlst := hI.2.2.2.2
  have hlb := mul_514 (a := Sn) (b := C) (r9_s hcnt.2.1 hK512).2.1
  have hftA := bdC_F hbdC
  have hrm := room_c (Sn := Sn) (AD := AD) (C := C) (c := cp) (cl := cl) (U := U) (r9_s hcnt.2.1 hK512).1 hI.2.2.1.2.2.2.2.2 hlst.2.2.2.1 hU
  have hrc : 1000 + 1010 * k9 + cp + 4 * cl ≤ 600000 := (by omega)
  have hefA : ∀ q, lvF ft st tn q → 1 ≤ eO (kd q).toInt (nN (mn q)) := fun q hq => eO_1 (wfS_kn hwfS q hq)
  refine la_19_1 l C0 hk9 hL9 hS hl (hv1) (rfl) (rfl) ?_
  obtain ⟨hPc, hDc, hFc⟩ := zt_3 hP hD hS hA
  refine zcall (st1 := [.long (-1)]) (va_runV (As := [.int (nI f0), .int (xs (6 * k9 + 2)), .int (xs (6 * k9 + 3))]) (rest := []) ⟨hx, hb, hml, hown, hts⟩ (k_near_z l dC dI cI cZ cF H.size x sh lw ro bq bp dq dp lv sl (nI bs) ul su (nI dn) fa ft FA L f kd st tn mn cx cy rk wd tw pa pb gb it (nI f0) (xs (6 * k9 + 2)) (xs (6 * k9 + 3)) (h200f) (shB_va hB) (fun ⟨_, ⟨g, e, hg⟩⟩ => nI_bad h200f hbad hg.1 e)) (csV_277 hts rfl rfl ⟨Nat.le_of_ble_eq_true rfl, Nat.le_of_ble_eq_true rfl⟩) (zPV2 (q0 := 0) (ci := 8) hPc hDc hK3 hXN rfl rfl) rfl rfl hl.1 rfl (lv_room (Nat.le_of_ble_eq_true rfl)) dL_law_787 ⟨hrc, hrm⟩) hS hFc hFc rfl (fun t H locs ht hB hk1 hS => ?_)
  obtain ⟨hP1, hD1⟩ := hB
  rw [ht] at hP1
  obtain ⟨hP, hD⟩ := zs_3  hP hD hk1 hFc hP1 hD1
  clear hk1 hPc hDc hFc hP1 hD1 ht
  refine lv_pop2_2 hx hb dL_law_790 rfl ?_
  refine la_19_2 l C0 hk9 hL9 hS hl (hv1) (rfl) (rfl) ?_
  obtain ⟨hPc, hDc, hFc⟩ := zt_4 hP hD hS hA
  refine zcall (st1 := [.long (-1)]) (va_runV (As := [.int (nI f0), .int (xs (6 * k9 + 2)), .int (xs (6 * k9 + 3))]) (rest := []) ⟨hx, hb, hml, hown, hts⟩ (k_M_near_x2 l dC dI cI cZ cF H.size k0 a (upd I0 26 (nI ln)) J0 f0 ft (xs (6 * k9 + 2)) (xs (6 * k9 + 3)) st tn (hm0) (h200f) (hbad) (by first | with_reducible assumption | omega)) (csV_278 hts rfl rfl ⟨Nat.le_of_ble_eq_true rfl, Nat.le_of_ble_eq_true rfl⟩) (zPV2 (q0 := 0) (ci := 9) hPc hDc hK3 hXN rfl rfl) rfl rfl hl.1 rfl (lv_room (Nat.le_of_ble_eq_true rfl)) dL_law_807 ⟨hrc, hrm⟩) hS hFc hFc rfl (fun t H locs ht hB hk1 hS => ?_)
  obtain ⟨hP1, hD1⟩ := hB
  rw [ht] at hP1
  obtain ⟨hP, hD⟩ := zs_4  hP hD hk1 hFc hP1 hD1
  clear hk1 hPc hDc hFc hP1 hD1 ht
  refine lv_pop2_2 hx hb dL_law_810 rfl ?_
  refine lv_goto (tgt := 1081) hx hb dL_law_811 rfl ?_
  obtain ⟨hP9, hD9⟩ := And.intro hP hD
  refine W.widen (k := 1000 + 1010 * (k9 + 1) + cp + 4 * cl) (n := 45000 + 8192 * cp + 512 * cl + U) (by first | exact wdK | omega) (by first | exact Nat.le_refl _ | omega) ?_
  exact hnext cp cl U H locs ls (lawI_in L f FA ea nd nt nw ul su mc9 rd rt rw P Q TX TY WX WY AR b1 b2 b3 b4 b5 b6 b7 b8 c1 c2 c3 c4 a1 a2 a3 a4 nv RA WT EX EY GR LV y1 y2 y3 y4 a I0 J0 kd st gb it pa pb rk wd tw tn mn cx cy sa shs wh of9 we la lb lc ld P0 Q0 S0 ox oy mt wi ins T0 fl mk jx jy gr bs dn T ft Sn AD C ln FT cc W9 V VX VY hP9 hD9 (hB) (INV_K hI) ⟨hm0, hm19, hm20, hm21⟩ (by first | exact hU | omega)) hS (lv_sub hl [0, 1, 2, 3] rfl)
end
