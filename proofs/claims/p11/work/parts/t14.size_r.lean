section
set_option maxHeartbeats 4000000 in
set_option maxRecDepth 100000 in
theorem lc_size_r {p : Program} {e : Env} {s : State} {m : MethodId} {below : List Frame} {meth : Method} {c : Code} (l : Launch) {b L9 : Nat} {xs : Nat → Int32} (C0 : lw_At p s m meth c b L9 xs) (dC : Nat → ClassId) (dI : Nat → Nat → Nat) (cI cZ cF cO : ClassId) (e0 mi : Nat) (x sl sh fa lw dr dx dy tg tx ty wy wx wz br bo aa ro za zw zx zy zg bq bp dq dp lv k0 : Nat) (hK : va_K (dC, dI) classes (zTyO cI cZ cF cO) s) (hXL : zXL e0 mi (fun q : Nat => s.heap.size ≤ q) s) (L : List Nat) (f : Nat → va_E) (FA : Nat → Option Nat) (ea : Nat) (nd : Nat) (nt : Nat) (nw : Nat) (ul : Int32) (su : Int32) (mc9 : Int32) (rd : Int32) (rt : Int32) (rw : Int32) (P : Nat → Int32) (Q : Nat → Int32) (TX : Nat → Int32) (TY : Nat → Int32) (WX : Nat → Int32) (WY : Nat → Int32) (AR : Nat → Int32) (b1 : Int32) (b2 : Int32) (b3 : Int32) (b4 : Int32) (b5 : Int32) (b6 : Int32) (b7 : Int32) (b8 : Int32) (c1 : Int32) (c2 : Int32) (c3 : Int32) (c4 : Int32) (a1 : Int32) (a2 : Int32) (a3 : Int32) (a4 : Int32) (nv : Int32) (RA : Nat → Option Nat) (WT : Nat → Int32) (EX : Nat → Int32) (EY : Nat → Int32) (GR : Nat → Int32) (LV : Nat → Int32) (y1 : Int64) (y2 : Int64) (y3 : Int64) (y4 : Int64) (a : Nat → Nat) (I0 : Nat → Int32) (J0 : Nat → Int64) (kd : Nat → Int32) (st : Nat → Int32) (gb : Nat → Int32) (it : Nat → Int32) (pa : Nat → Int32) (pb : Nat → Int32) (rk : Nat → Int32) (wd : Nat → Int32) (tw : Nat → Int32) (tn : Nat → Int32) (mn : Nat → Int32) (cx : Nat → Int32) (cy : Nat → Int32) (sa : Nat → Int32) (shs : Nat → Int32) (wh : Nat → Int32) (of9 : Nat → Int32) (we : Nat → Int32) (la : Nat → Int32) (lb : Nat → Int32) (lc : Nat → Int32) (ld : Nat → Int32) (P0 : Nat → Int32) (Q0 : Nat → Int32) (S0 : Nat → Int32) (ox : Nat → Int32) (oy : Nat → Int32) (mt : Nat → Int32) (wi : Nat → Int32) (ins : Nat → Int32) (T0 : Nat → Int32) (fl : Nat → Int32) (mk : Nat → Int32) (jx : Nat → Int32) (jy : Nat → Int32) (gr : Nat → Int32) (bs : Nat) (dn : Nat) (T : Nat) (ft : Nat) (Sn : Nat) (AD : Nat) (C : Nat) (ln : Nat) (FT : Nat → Nat) (cc : Nat → Nat) (W9 : Nat → Nat) (V : Nat → Nat → Nat → Int32) (VX : Nat → Nat → Int32) (VY : Nat → Nat → Int32) (cp cl U k9 : Nat) (hk9 : 6 * k9 + 6 ≤ L9) (hL9 : L9 ≤ 3072) (f0 : Nat) {H : Heap} {locs : List Loc} {ls : Array Slot} (hPD : zPD (dC, dI) classes (fun q : Nat => s.heap.size ≤ q) (((oc8 x (.ref sh) (.ref lw) (.ref ro) (.ref bq) (.ref bp) (.ref dq) (.ref dp) (.ref lv) (.ref sl) (nI dn) (nI bs) ul su) :: (oc10 sl mc9 (.ref ea) (nI T)) :: (oc7 sh (.ref fa) (nI ft)) :: (oq fa cF 200 FA) :: (oc3 lw (.ref dr) (.ref tg) (.ref wy) (.ref br) (.ref bo) (.ref aa)) :: (oc6 dr (.ref dx) (.ref dy) (nI nd) rd) :: (oa dx cI 40 P) :: (oa dy cI 40 Q) :: (oc6 tg (.ref tx) (.ref ty) (nI nt) rt) :: (oa tx cI 3 TX) :: (oa ty cI 3 TY) :: (oc6 wy (.ref wx) (.ref wz) (nI nw) rw) :: (oa wx cI 2 WX) :: (oa wz cI 2 WY) :: (oc0 br b1 b2 b3 b4) :: (oc0 bo b5 b6 b7 b8) :: (oa aa cI 40 AR) :: (oc5 ro (.ref za) (.ref zw) (.ref zx) (.ref zy) (.ref zg) nv) :: (oq za cF 200 RA) :: (oa zw cI 200 WT) :: (oa zx cI 400 EX) :: (oa zy cI 400 EY) :: (oa zg cI 400 GR) :: (oc0 bq c1 c2 c3 c4) :: (oc0 bp a1 a2 a3 a4) :: (oc2 dq y1 y2) :: (oc2 dp y3 y4) :: (oa lv cZ 200 LV) :: (om k0 a (upd I0 26 (nI ln)) J0) :: (oa (a 1) cI 201 kd) :: (oa (a 5) cI 201 st) :: (oa (a 7) cI 201 gb) :: (oa (a 10) cI 201 it) :: (oa (a 8) cI 201 pa) :: (oa (a 9) cI 201 pb) :: (oa (a 2) cI 201 rk) :: (oa (a 3) cI 201 wd) :: (oa (a 4) cI 201 tw) :: (oa (a 6) cZ 201 tn) :: (oa (a 11) cI 201 mn) :: (oa (a 12) cI 8040 cx) :: (oa (a 13) cI 8040 cy) :: (oa (a 27) cI 516 sa) :: (oa (a 28) cI (4096 * cp) shs) :: (oa (a 16) cI 514 wh) :: (oa (a 17) cI 514 of9) :: (oa (a 18) cI 514 we) :: (oa (a 22) cI (64 * cl) la) :: (oa (a 23) cI (64 * cl) lb) :: (oa (a 24) cI (64 * cl) lc) :: (oa (a 25) cI (64 * cl) ld) :: (oa (a 29) cI 42 P0) :: (oa (a 30) cI 42 Q0) :: (oa (a 32) cI 8 S0) :: (oa (a 33) cI 42 ox) :: (oa (a 34) cI 42 oy) :: (oa (a 37) cZ 201 mt) :: (oa (a 38) cZ 201 wi) :: (oa (a 39) cZ 8040 ins) :: (oa (a 40) cI 6 T0) :: (oa (a 43) cZ 40 fl) :: (oa (a 50) cZ 201 mk) :: (oa (a 51) cI 402 jx) :: (oa (a 52) cI 402 jy) :: (oa (a 53) cI 402 gr) :: []) ++ va_pl L f) H) (hS : va_S (fun q : Nat => s.heap.size ≤ q) s.heap H locs) (hl : lv_has ls 4 [(3, .int (nI (6 * k9))), (2, .ref k0), (1, .ref x), (0, .ref b)]) (hB : shB cI cO L f e0 FA ea bs dn T ft FT V VX VY tn rk wd tw pa pb wh of9 we kd st gb it mn cx cy) (hI : INV k9 Sn AD C cc W9 bs T ft cp ln cl FT V VX VY tn rk wd tw pa pb kd st it mn cx cy sa shs lb lc) (hM : I0 0 = nI ft ∧ I0 19 = nI dn ∧ I0 20 = nI (T - dn) ∧ I0 21 = nI bs) (hU : U ≤ Sn * (28 * (AD + C) + 1000) + 200 * (AD + C)) (hf0 : f0 < ft) (hv1 : xs (6 * k9 + 1) = nI f0) (hbad : ¬ lvF ft st tn f0) (hnext : ∀ (cp1 cl1 U1 : Nat) (H : Heap) (locs : List Loc) (ls : Array Slot), lawI s dC dI cI cZ cF cO e0 mi x sl sh fa lw dr dx dy tg tx ty wy wx wz br bo aa ro za zw zx zy zg bq bp dq dp lv k0 (k9 + 1) cp1 cl1 U1 H → va_S (fun q : Nat => s.heap.size ≤ q) s.heap H locs → lv_has ls 4 [(3, .int (nI (6 * k9))), (2, .ref k0), (1, .ref x), (0, .ref b)] → W p l e room_1 s m #[Value.ref b] below meth c H locs (1000 + 1010 * (k9 + 1) + cp1 + 4 * cl1) (45000 + 8192 * cp1 + 512 * cl1 + U1) (lw_Z below #[Value.ref b] s) (F0 m 1081 ls [])) : W p l e room_1 s m #[Value.ref b] below meth c H locs (1000 + 1010 * k9 + cp + 4 * cl) (45000 + 8192 * cp + 512 * cl + U) (lw_Z below #[Value.ref b] s) (F0 m 913 ls []) := by
  obtain ⟨hP, hD⟩ := hPD
  obtain ⟨hx, hb, hr, hml, hown, hts1, hX, hbl, hlocks, hgv⟩ := id C0
  have hts : ∀ w9 ∈ ws0, w9.before #[Value.ref b] s = true := fun w9 h => hts1 w9 (List.mem_filter.mp h).1
  have hA : ∀ q : Nat, s.heap.size ≤ q → (fun q : Nat => s.heap.size ≤ q) q := fun _ h => h
  have hbA : ¬ (fun q : Nat => s.heap.size ≤ q) b := Nat.not_le.mpr hbl
  have hXN := hXL.1
  have hK3 := hK.sub [0, 1, 2] rfl
  obtain ⟨hm0, hm19, hm20, hm21⟩ := hM
  have hpo := shB_po hB
  have hK512 : k9 + 1 ≤ 512 := (by omega)
  have hwfS := hI.1.1
  have hbdC := hI.1.2.2.1
  have hT0 := hI.1.2.2.2
  have hd9 := hpo.1
  have h200t : ∀ t, bs ≤ t → t ≤ T → FT t ≤ 200 := fun t t1 t2 => Nat.le_trans (hpo.2.1 t T t1 t2 (Nat.le_refl _)) hd9.2.2.2.2
  have h200f : ft ≤ 200 := (by rw [hd9.2.2.2.1]; exact h200t dn hd9.1 hd9.2.1)
  have hrkA : ∀ q, lvF ft st tn q → 0 ≤ (rk q).toInt ∧ (rk q).toInt ≤ 9 := fun q hq => (hI.1.2.1 q (Nat.lt_of_lt_of_le hq.1 (by rw [hd9.2.2.2.1]; exact hpo.2.1 dn T hd9.1 hd9.2.1 (Nat.le_refl _)))).1
  have hwdA : ∀ q, q < ft → 0 ≤ (wd q).toInt ∧ (wd q).toInt ≤ 100 := fun q hq => (hI.1.2.1 q (Nat.lt_of_lt_of_le hq (by rw [hd9.2.2.2.1]; exact hpo.2.1 dn T hd9.1 hd9.2.1 (Nat.le_refl _)))).2
  have hcp5 := INV_cp hI (by omega)
  have hcp1 := hI.2.2.1.2.1
  have hcnt := hI.2.2.2.1
  have hlst := hI.2.2.2.2
  have hlb := mul_514 (a := Sn) (b := C) (by omega)
  have hftA := bdC_F hbdC
  have hrm := room_c (Sn := Sn) (AD := AD) (C := C) (c := cp) (cl := cl) (U := U) (by omega) hI.2.2.1.2.2.2.2.2 hlst.2.2.2.1 hU
  have hrc : 1000 + 1010 * k9 + cp + 4 * cl ≤ 600000 := (by omega)
  have hefA : ∀ q, lvF ft st tn q → 1 ≤ eO (kd q).toInt (nN (mn q)) := fun q hq => eO_1 (wfS_kn hwfS q hq)
  refine la_23_1 l C0 hk9 hL9 hS hl (hv1) ?_
  obtain ⟨hPc, hDc, hFc⟩ := zt_3 hP hD hS hA
  refine zcall (st1 := [.long (-1)]) (va_runV (As := [.int (nI f0)]) (rest := []) ⟨hx, hb, hml, hown, hts⟩ (k_size_z l dC dI cI cZ cF H.size x sh lw ro bq bp dq dp lv sl (nI bs) ul su (nI dn) fa ft FA L f kd st tn mn cx cy rk wd tw pa pb gb it (nI f0) (h200f) (shB_va hB) (fun ⟨g, e, hg⟩ => hbad (by rw [nI_inj9 (a := f0) (b := g) (by first | with_reducible assumption | omega) (by have := hg.1; omega) e]; exact hg))) (csV_269 hts rfl rfl ⟨Nat.le_of_ble_eq_true rfl, Nat.le_of_ble_eq_true rfl⟩) (zPV2 (q0 := 0) (ci := 8) hPc hDc hK3 hXN rfl rfl) rfl rfl hl.1 rfl (lv_room (Nat.le_of_ble_eq_true rfl)) dL_law_919 ⟨hrc, hrm⟩) hS hFc hFc rfl (fun t H locs ht hB hk1 hS => ?_)
  obtain ⟨hP1, hD1⟩ := hB
  rw [ht] at hP1
  obtain ⟨hP, hD⟩ := zs_3  hP hD hk1 hFc hP1 hD1
  clear hk1 hPc hDc hFc hP1 hD1 ht
  refine lv_pop2_2 hx hb dL_law_922 rfl ?_
  refine la_23_2 l C0 hk9 hL9 hS hl (hv1) ?_
  obtain ⟨hPc, hDc, hFc⟩ := zt_4 hP hD hS hA
  refine zcall (st1 := [.long (-1)]) (va_runV (As := [.int (nI f0)]) (rest := []) ⟨hx, hb, hml, hown, hts⟩ (k_M_size_r l dC dI cI cZ cF H.size k0 a (upd I0 26 (nI ln)) J0 f0 ft st tn (hm0) (h200f) (by first | with_reducible assumption | omega) (hbad)) (csV_270 hts rfl rfl ⟨Nat.le_of_ble_eq_true rfl, Nat.le_of_ble_eq_true rfl⟩) (zPV2 (q0 := 0) (ci := 9) hPc hDc hK3 hXN rfl rfl) rfl rfl hl.1 rfl (lv_room (Nat.le_of_ble_eq_true rfl)) dL_law_929 ⟨hrc, hrm⟩) hS hFc hFc rfl (fun t H locs ht hB hk1 hS => ?_)
  obtain ⟨hP1, hD1⟩ := hB
  rw [ht] at hP1
  obtain ⟨hP, hD⟩ := zs_4  hP hD hk1 hFc hP1 hD1
  clear hk1 hPc hDc hFc hP1 hD1 ht
  refine lv_pop2_2 hx hb dL_law_932 rfl ?_
  refine lv_goto (tgt := 1081) hx hb dL_law_933 rfl ?_
  obtain ⟨hP9, hD9⟩ := And.intro hP hD
  refine W.widen (k := 1000 + 1010 * (k9 + 1) + cp + 4 * cl) (n := 45000 + 8192 * cp + 512 * cl + U) (by first | exact wdK | omega) (by first | exact Nat.le_refl _ | omega) ?_
  exact hnext cp cl U H locs ls (lawI_in L f FA ea nd nt nw ul su mc9 rd rt rw P Q TX TY WX WY AR b1 b2 b3 b4 b5 b6 b7 b8 c1 c2 c3 c4 a1 a2 a3 a4 nv RA WT EX EY GR LV y1 y2 y3 y4 a I0 J0 kd st gb it pa pb rk wd tw tn mn cx cy sa shs wh of9 we la lb lc ld P0 Q0 S0 ox oy mt wi ins T0 fl mk jx jy gr bs dn T ft Sn AD C ln FT cc W9 V VX VY hP9 hD9 (hB) (INV_K hI) ⟨hm0, hm19, hm20, hm21⟩ (by first | exact hU | omega)) hS (lv_sub hl [0, 1, 2, 3] rfl)
set_option maxHeartbeats 4000000 in
set_option maxRecDepth 100000 in
theorem lc_size_p {p : Program} {e : Env} {s : State} {m : MethodId} {below : List Frame} {meth : Method} {c : Code} (l : Launch) {b L9 : Nat} {xs : Nat → Int32} (C0 : lw_At p s m meth c b L9 xs) (dC : Nat → ClassId) (dI : Nat → Nat → Nat) (cI cZ cF cO : ClassId) (e0 mi : Nat) (x sl sh fa lw dr dx dy tg tx ty wy wx wz br bo aa ro za zw zx zy zg bq bp dq dp lv k0 : Nat) (hK : va_K (dC, dI) classes (zTyO cI cZ cF cO) s) (hXL : zXL e0 mi (fun q : Nat => s.heap.size ≤ q) s) (L : List Nat) (f : Nat → va_E) (FA : Nat → Option Nat) (ea : Nat) (nd : Nat) (nt : Nat) (nw : Nat) (ul : Int32) (su : Int32) (mc9 : Int32) (rd : Int32) (rt : Int32) (rw : Int32) (P : Nat → Int32) (Q : Nat → Int32) (TX : Nat → Int32) (TY : Nat → Int32) (WX : Nat → Int32) (WY : Nat → Int32) (AR : Nat → Int32) (b1 : Int32) (b2 : Int32) (b3 : Int32) (b4 : Int32) (b5 : Int32) (b6 : Int32) (b7 : Int32) (b8 : Int32) (c1 : Int32) (c2 : Int32) (c3 : Int32) (c4 : Int32) (a1 : Int32) (a2 : Int32) (a3 : Int32) (a4 : Int32) (nv : Int32) (RA : Nat → Option Nat) (WT : Nat → Int32) (EX : Nat → Int32) (EY : Nat → Int32) (GR : Nat → Int32) (LV : Nat → Int32) (y1 : Int64) (y2 : Int64) (y3 : Int64) (y4 : Int64) (a : Nat → Nat) (I0 : Nat → Int32) (J0 : Nat → Int64) (kd : Nat → Int32) (st : Nat → Int32) (gb : Nat → Int32) (it : Nat → Int32) (pa : Nat → Int32) (pb : Nat → Int32) (rk : Nat → Int32) (wd : Nat → Int32) (tw : Nat → Int32) (tn : Nat → Int32) (mn : Nat → Int32) (cx : Nat → Int32) (cy : Nat → Int32) (sa : Nat → Int32) (shs : Nat → Int32) (wh : Nat → Int32) (of9 : Nat → Int32) (we : Nat → Int32) (la : Nat → Int32) (lb : Nat → Int32) (lc : Nat → Int32) (ld : Nat → Int32) (P0 : Nat → Int32) (Q0 : Nat → Int32) (S0 : Nat → Int32) (ox : Nat → Int32) (oy : Nat → Int32) (mt : Nat → Int32) (wi : Nat → Int32) (ins : Nat → Int32) (T0 : Nat → Int32) (fl : Nat → Int32) (mk : Nat → Int32) (jx : Nat → Int32) (jy : Nat → Int32) (gr : Nat → Int32) (bs : Nat) (dn : Nat) (T : Nat) (ft : Nat) (Sn : Nat) (AD : Nat) (C : Nat) (ln : Nat) (FT : Nat → Nat) (cc : Nat → Nat) (W9 : Nat → Nat) (V : Nat → Nat → Nat → Int32) (VX : Nat → Nat → Int32) (VY : Nat → Nat → Int32) (cp cl U k9 : Nat) (hk9 : 6 * k9 + 6 ≤ L9) (hL9 : L9 ≤ 3072) (f0 : Nat) {H : Heap} {locs : List Loc} {ls : Array Slot} (hPD : zPD (dC, dI) classes (fun q : Nat => s.heap.size ≤ q) (((oc8 x (.ref sh) (.ref lw) (.ref ro) (.ref bq) (.ref bp) (.ref dq) (.ref dp) (.ref lv) (.ref sl) (nI dn) (nI bs) ul su) :: (oc10 sl mc9 (.ref ea) (nI T)) :: (oc7 sh (.ref fa) (nI ft)) :: (oq fa cF 200 FA) :: (oc3 lw (.ref dr) (.ref tg) (.ref wy) (.ref br) (.ref bo) (.ref aa)) :: (oc6 dr (.ref dx) (.ref dy) (nI nd) rd) :: (oa dx cI 40 P) :: (oa dy cI 40 Q) :: (oc6 tg (.ref tx) (.ref ty) (nI nt) rt) :: (oa tx cI 3 TX) :: (oa ty cI 3 TY) :: (oc6 wy (.ref wx) (.ref wz) (nI nw) rw) :: (oa wx cI 2 WX) :: (oa wz cI 2 WY) :: (oc0 br b1 b2 b3 b4) :: (oc0 bo b5 b6 b7 b8) :: (oa aa cI 40 AR) :: (oc5 ro (.ref za) (.ref zw) (.ref zx) (.ref zy) (.ref zg) nv) :: (oq za cF 200 RA) :: (oa zw cI 200 WT) :: (oa zx cI 400 EX) :: (oa zy cI 400 EY) :: (oa zg cI 400 GR) :: (oc0 bq c1 c2 c3 c4) :: (oc0 bp a1 a2 a3 a4) :: (oc2 dq y1 y2) :: (oc2 dp y3 y4) :: (oa lv cZ 200 LV) :: (om k0 a (upd I0 26 (nI ln)) J0) :: (oa (a 1) cI 201 kd) :: (oa (a 5) cI 201 st) :: (oa (a 7) cI 201 gb) :: (oa (a 10) cI 201 it) :: (oa (a 8) cI 201 pa) :: (oa (a 9) cI 201 pb) :: (oa (a 2) cI 201 rk) :: (oa (a 3) cI 201 wd) :: (oa (a 4) cI 201 tw) :: (oa (a 6) cZ 201 tn) :: (oa (a 11) cI 201 mn) :: (oa (a 12) cI 8040 cx) :: (oa (a 13) cI 8040 cy) :: (oa (a 27) cI 516 sa) :: (oa (a 28) cI (4096 * cp) shs) :: (oa (a 16) cI 514 wh) :: (oa (a 17) cI 514 of9) :: (oa (a 18) cI 514 we) :: (oa (a 22) cI (64 * cl) la) :: (oa (a 23) cI (64 * cl) lb) :: (oa (a 24) cI (64 * cl) lc) :: (oa (a 25) cI (64 * cl) ld) :: (oa (a 29) cI 42 P0) :: (oa (a 30) cI 42 Q0) :: (oa (a 32) cI 8 S0) :: (oa (a 33) cI 42 ox) :: (oa (a 34) cI 42 oy) :: (oa (a 37) cZ 201 mt) :: (oa (a 38) cZ 201 wi) :: (oa (a 39) cZ 8040 ins) :: (oa (a 40) cI 6 T0) :: (oa (a 43) cZ 40 fl) :: (oa (a 50) cZ 201 mk) :: (oa (a 51) cI 402 jx) :: (oa (a 52) cI 402 jy) :: (oa (a 53) cI 402 gr) :: []) ++ va_pl L f) H) (hS : va_S (fun q : Nat => s.heap.size ≤ q) s.heap H locs) (hl : lv_has ls 4 [(3, .int (nI (6 * k9))), (2, .ref k0), (1, .ref x), (0, .ref b)]) (hB : shB cI cO L f e0 FA ea bs dn T ft FT V VX VY tn rk wd tw pa pb wh of9 we kd st gb it mn cx cy) (hI : INV k9 Sn AD C cc W9 bs T ft cp ln cl FT V VX VY tn rk wd tw pa pb kd st it mn cx cy sa shs lb lc) (hM : I0 0 = nI ft ∧ I0 19 = nI dn ∧ I0 20 = nI (T - dn) ∧ I0 21 = nI bs) (hU : U ≤ Sn * (28 * (AD + C) + 1000) + 200 * (AD + C)) (hf0 : f0 < ft) (hv1 : xs (6 * k9 + 1) = nI f0) (hlv : lvF ft st tn f0) (hk : (kd f0).toInt = 0) (hnext : ∀ (cp1 cl1 U1 : Nat) (H : Heap) (locs : List Loc) (ls : Array Slot), lawI s dC dI cI cZ cF cO e0 mi x sl sh fa lw dr dx dy tg tx ty wy wx wz br bo aa ro za zw zx zy zg bq bp dq dp lv k0 (k9 + 1) cp1 cl1 U1 H → va_S (fun q : Nat => s.heap.size ≤ q) s.heap H locs → lv_has ls 4 [(3, .int (nI (6 * k9))), (2, .ref k0), (1, .ref x), (0, .ref b)] → W p l e room_1 s m #[Value.ref b] below meth c H locs (1000 + 1010 * (k9 + 1) + cp1 + 4 * cl1) (45000 + 8192 * cp1 + 512 * cl1 + U1) (lw_Z below #[Value.ref b] s) (F0 m 1081 ls [])) : W p l e room_1 s m #[Value.ref b] below meth c H locs (1000 + 1010 * k9 + cp + 4 * cl) (45000 + 8192 * cp + 512 * cl + U) (lw_Z below #[Value.ref b] s) (F0 m 913 ls []) := by
  obtain ⟨hP, hD⟩ := hPD
  obtain ⟨hx, hb, hr, hml, hown, hts1, hX, hbl, hlocks, hgv⟩ := id C0
  have hts : ∀ w9 ∈ ws0, w9.before #[Value.ref b] s = true := fun w9 h => hts1 w9 (List.mem_filter.mp h).1
  have hA : ∀ q : Nat, s.heap.size ≤ q → (fun q : Nat => s.heap.size ≤ q) q := fun _ h => h
  have hbA : ¬ (fun q : Nat => s.heap.size ≤ q) b := Nat.not_le.mpr hbl
  have hXN := hXL.1
  have hK3 := hK.sub [0, 1, 2] rfl
  obtain ⟨hm0, hm19, hm20, hm21⟩ := hM
  have hpo := shB_po hB
  have hK512 : k9 + 1 ≤ 512 := (by omega)
  have hwfS := hI.1.1
  have hbdC := hI.1.2.2.1
  have hT0 := hI.1.2.2.2
  have hd9 := hpo.1
  have h200t : ∀ t, bs ≤ t → t ≤ T → FT t ≤ 200 := fun t t1 t2 => Nat.le_trans (hpo.2.1 t T t1 t2 (Nat.le_refl _)) hd9.2.2.2.2
  have h200f : ft ≤ 200 := (by rw [hd9.2.2.2.1]; exact h200t dn hd9.1 hd9.2.1)
  have hrkA : ∀ q, lvF ft st tn q → 0 ≤ (rk q).toInt ∧ (rk q).toInt ≤ 9 := fun q hq => (hI.1.2.1 q (Nat.lt_of_lt_of_le hq.1 (by rw [hd9.2.2.2.1]; exact hpo.2.1 dn T hd9.1 hd9.2.1 (Nat.le_refl _)))).1
  have hwdA : ∀ q, q < ft → 0 ≤ (wd q).toInt ∧ (wd q).toInt ≤ 100 := fun q hq => (hI.1.2.1 q (Nat.lt_of_lt_of_le hq (by rw [hd9.2.2.2.1]; exact hpo.2.1 dn T hd9.1 hd9.2.1 (Nat.le_refl _)))).2
  have hcp5 := INV_cp hI (by omega)
  have hcp1 := hI.2.2.1.2.1
  have hcnt := hI.2.2.2.1
  have hlst := hI.2.2.2.2
  have hlb := mul_514 (a := Sn) (b := C) (by omega)
  have hftA := bdC_F hbdC
  have hrm := room_c (Sn := Sn) (AD := AD) (C := C) (c := cp) (cl := cl) (U := U) (by omega) hI.2.2.1.2.2.2.2.2 hlst.2.2.2.1 hU
  have hrc : 1000 + 1010 * k9 + cp + 4 * cl ≤ 600000 := (by omega)
  have hefA : ∀ q, lvF ft st tn q → 1 ≤ eO (kd q).toInt (nN (mn q)) := fun q hq => eO_1 (wfS_kn hwfS q hq)
  refine la_23_1 l C0 hk9 hL9 hS hl (hv1) ?_
  obtain ⟨hPc, hDc, hFc⟩ := zt_3 hP hD hS hA
  refine zcalle (va_runV (As := [.int (nI f0)]) (rest := []) ⟨hx, hb, hml, hown, hts⟩ (k_size_w l dC dI cI cZ cF H.size x sh lw ro bq bp dq dp lv sl (nI bs) ul su (nI dn) fa ft FA f0 L f kd st tn mn cx cy rk wd tw pa pb gb it (h200f) (hf0) (shB_va hB) (wfS_ok hwfS) (hlv)) (csV_269 hts rfl rfl ⟨Nat.le_of_ble_eq_true rfl, Nat.le_of_ble_eq_true rfl⟩) (zPV2 (q0 := 0) (ci := 8) hPc hDc hK3 hXN rfl rfl) rfl rfl hl.1 rfl (lv_room (Nat.le_of_ble_eq_true rfl)) dL_law_919 ⟨hrc, hrm⟩) hS hFc hFc (fun v9 t H locs ht hB hk1 hS => ?_)
  obtain ⟨q_1, rfl, hP1, hD1⟩ := hB
  refine W.eq (g2 := F0 m 922 ls [.long q_1]) rfl ?_
  rw [ht] at hP1
  obtain ⟨hP, hD⟩ := zs_3  hP hD hk1 hFc hP1 hD1
  clear hk1 hPc hDc hFc hP1 hD1 ht
  refine lv_pop2_2 hx hb dL_law_922 rfl ?_
  refine la_23_2 l C0 hk9 hL9 hS hl (hv1) ?_
  obtain ⟨hPc, hDc, hFc⟩ := zt_5 hP hD hS hA
  refine zcall (st1 := [.long 0]) (va_runV (As := [.int (nI f0)]) (rest := []) ⟨hx, hb, hml, hown, hts⟩ (k_M_size_p l dC dI cI cZ cF H.size k0 a (upd I0 26 (nI ln)) J0 f0 ft st tn kd (hm0) (h200f) (by first | with_reducible assumption | omega) (hlv) (hk)) (csV_270 hts rfl rfl ⟨Nat.le_of_ble_eq_true rfl, Nat.le_of_ble_eq_true rfl⟩) (zPV2 (q0 := 0) (ci := 9) hPc hDc hK3 hXN rfl rfl) rfl rfl hl.1 rfl (lv_room (Nat.le_of_ble_eq_true rfl)) dL_law_929 ⟨hrc, hrm⟩) hS hFc hFc rfl (fun t H locs ht hB hk1 hS => ?_)
  obtain ⟨hP1, hD1⟩ := hB
  rw [ht] at hP1
  obtain ⟨hP, hD⟩ := zs_5  hP hD hk1 hFc hP1 hD1
  clear hk1 hPc hDc hFc hP1 hD1 ht
  refine lv_pop2_2 hx hb dL_law_932 rfl ?_
  refine lv_goto (tgt := 1081) hx hb dL_law_933 rfl ?_
  obtain ⟨hP9, hD9⟩ := And.intro hP hD
  refine W.widen (k := 1000 + 1010 * (k9 + 1) + cp + 4 * cl) (n := 45000 + 8192 * cp + 512 * cl + U) (by first | exact wdK | omega) (by first | exact Nat.le_refl _ | omega) ?_
  exact hnext cp cl U H locs ls (lawI_in L f FA ea nd nt nw ul su mc9 rd rt rw P Q TX TY WX WY AR b1 b2 b3 b4 b5 b6 b7 b8 c1 c2 c3 c4 a1 a2 a3 a4 nv RA WT EX EY GR LV y1 y2 y3 y4 a I0 J0 kd st gb it pa pb rk wd tw tn mn cx cy sa shs wh of9 we la lb lc ld P0 Q0 S0 ox oy mt wi ins T0 fl mk jx jy gr bs dn T ft Sn AD C ln FT cc W9 V VX VY hP9 hD9 (hB) (INV_K hI) ⟨hm0, hm19, hm20, hm21⟩ (by first | exact hU | omega)) hS (lv_sub hl [0, 1, 2, 3] rfl)
set_option maxHeartbeats 4000000 in
set_option maxRecDepth 100000 in
theorem lc_size_a {p : Program} {e : Env} {s : State} {m : MethodId} {below : List Frame} {meth : Method} {c : Code} (l : Launch) {b L9 : Nat} {xs : Nat → Int32} (C0 : lw_At p s m meth c b L9 xs) (dC : Nat → ClassId) (dI : Nat → Nat → Nat) (cI cZ cF cO : ClassId) (e0 mi : Nat) (x sl sh fa lw dr dx dy tg tx ty wy wx wz br bo aa ro za zw zx zy zg bq bp dq dp lv k0 : Nat) (hK : va_K (dC, dI) classes (zTyO cI cZ cF cO) s) (hXL : zXL e0 mi (fun q : Nat => s.heap.size ≤ q) s) (L : List Nat) (f : Nat → va_E) (FA : Nat → Option Nat) (ea : Nat) (nd : Nat) (nt : Nat) (nw : Nat) (ul : Int32) (su : Int32) (mc9 : Int32) (rd : Int32) (rt : Int32) (rw : Int32) (P : Nat → Int32) (Q : Nat → Int32) (TX : Nat → Int32) (TY : Nat → Int32) (WX : Nat → Int32) (WY : Nat → Int32) (AR : Nat → Int32) (b1 : Int32) (b2 : Int32) (b3 : Int32) (b4 : Int32) (b5 : Int32) (b6 : Int32) (b7 : Int32) (b8 : Int32) (c1 : Int32) (c2 : Int32) (c3 : Int32) (c4 : Int32) (a1 : Int32) (a2 : Int32) (a3 : Int32) (a4 : Int32) (nv : Int32) (RA : Nat → Option Nat) (WT : Nat → Int32) (EX : Nat → Int32) (EY : Nat → Int32) (GR : Nat → Int32) (LV : Nat → Int32) (y1 : Int64) (y2 : Int64) (y3 : Int64) (y4 : Int64) (a : Nat → Nat) (I0 : Nat → Int32) (J0 : Nat → Int64) (kd : Nat → Int32) (st : Nat → Int32) (gb : Nat → Int32) (it : Nat → Int32) (pa : Nat → Int32) (pb : Nat → Int32) (rk : Nat → Int32) (wd : Nat → Int32) (tw : Nat → Int32) (tn : Nat → Int32) (mn : Nat → Int32) (cx : Nat → Int32) (cy : Nat → Int32) (sa : Nat → Int32) (shs : Nat → Int32) (wh : Nat → Int32) (of9 : Nat → Int32) (we : Nat → Int32) (la : Nat → Int32) (lb : Nat → Int32) (lc : Nat → Int32) (ld : Nat → Int32) (P0 : Nat → Int32) (Q0 : Nat → Int32) (S0 : Nat → Int32) (ox : Nat → Int32) (oy : Nat → Int32) (mt : Nat → Int32) (wi : Nat → Int32) (ins : Nat → Int32) (T0 : Nat → Int32) (fl : Nat → Int32) (mk : Nat → Int32) (jx : Nat → Int32) (jy : Nat → Int32) (gr : Nat → Int32) (bs : Nat) (dn : Nat) (T : Nat) (ft : Nat) (Sn : Nat) (AD : Nat) (C : Nat) (ln : Nat) (FT : Nat → Nat) (cc : Nat → Nat) (W9 : Nat → Nat) (V : Nat → Nat → Nat → Int32) (VX : Nat → Nat → Int32) (VY : Nat → Nat → Int32) (cp cl U k9 : Nat) (hk9 : 6 * k9 + 6 ≤ L9) (hL9 : L9 ≤ 3072) (f0 : Nat) {H : Heap} {locs : List Loc} {ls : Array Slot} (hPD : zPD (dC, dI) classes (fun q : Nat => s.heap.size ≤ q) (((oc8 x (.ref sh) (.ref lw) (.ref ro) (.ref bq) (.ref bp) (.ref dq) (.ref dp) (.ref lv) (.ref sl) (nI dn) (nI bs) ul su) :: (oc10 sl mc9 (.ref ea) (nI T)) :: (oc7 sh (.ref fa) (nI ft)) :: (oq fa cF 200 FA) :: (oc3 lw (.ref dr) (.ref tg) (.ref wy) (.ref br) (.ref bo) (.ref aa)) :: (oc6 dr (.ref dx) (.ref dy) (nI nd) rd) :: (oa dx cI 40 P) :: (oa dy cI 40 Q) :: (oc6 tg (.ref tx) (.ref ty) (nI nt) rt) :: (oa tx cI 3 TX) :: (oa ty cI 3 TY) :: (oc6 wy (.ref wx) (.ref wz) (nI nw) rw) :: (oa wx cI 2 WX) :: (oa wz cI 2 WY) :: (oc0 br b1 b2 b3 b4) :: (oc0 bo b5 b6 b7 b8) :: (oa aa cI 40 AR) :: (oc5 ro (.ref za) (.ref zw) (.ref zx) (.ref zy) (.ref zg) nv) :: (oq za cF 200 RA) :: (oa zw cI 200 WT) :: (oa zx cI 400 EX) :: (oa zy cI 400 EY) :: (oa zg cI 400 GR) :: (oc0 bq c1 c2 c3 c4) :: (oc0 bp a1 a2 a3 a4) :: (oc2 dq y1 y2) :: (oc2 dp y3 y4) :: (oa lv cZ 200 LV) :: (om k0 a (upd I0 26 (nI ln)) J0) :: (oa (a 1) cI 201 kd) :: (oa (a 5) cI 201 st) :: (oa (a 7) cI 201 gb) :: (oa (a 10) cI 201 it) :: (oa (a 8) cI 201 pa) :: (oa (a 9) cI 201 pb) :: (oa (a 2) cI 201 rk) :: (oa (a 3) cI 201 wd) :: (oa (a 4) cI 201 tw) :: (oa (a 6) cZ 201 tn) :: (oa (a 11) cI 201 mn) :: (oa (a 12) cI 8040 cx) :: (oa (a 13) cI 8040 cy) :: (oa (a 27) cI 516 sa) :: (oa (a 28) cI (4096 * cp) shs) :: (oa (a 16) cI 514 wh) :: (oa (a 17) cI 514 of9) :: (oa (a 18) cI 514 we) :: (oa (a 22) cI (64 * cl) la) :: (oa (a 23) cI (64 * cl) lb) :: (oa (a 24) cI (64 * cl) lc) :: (oa (a 25) cI (64 * cl) ld) :: (oa (a 29) cI 42 P0) :: (oa (a 30) cI 42 Q0) :: (oa (a 32) cI 8 S0) :: (oa (a 33) cI 42 ox) :: (oa (a 34) cI 42 oy) :: (oa (a 37) cZ 201 mt) :: (oa (a 38) cZ 201 wi) :: (oa (a 39) cZ 8040 ins) :: (oa (a 40) cI 6 T0) :: (oa (a 43) cZ 40 fl) :: (oa (a 50) cZ 201 mk) :: (oa (a 51) cI 402 jx) :: (oa (a 52) cI 402 jy) :: (oa (a 53) cI 402 gr) :: []) ++ va_pl L f) H) (hS : va_S (fun q : Nat => s.heap.size ≤ q) s.heap H locs) (hl : lv_has ls 4 [(3, .int (nI (6 * k9))), (2, .ref k0), (1, .ref x), (0, .ref b)]) (hB : shB cI cO L f e0 FA ea bs dn T ft FT V VX VY tn rk wd tw pa pb wh of9 we kd st gb it mn cx cy) (hI : INV k9 Sn AD C cc W9 bs T ft cp ln cl FT V VX VY tn rk wd tw pa pb kd st it mn cx cy sa shs lb lc) (hM : I0 0 = nI ft ∧ I0 19 = nI dn ∧ I0 20 = nI (T - dn) ∧ I0 21 = nI bs) (hU : U ≤ Sn * (28 * (AD + C) + 1000) + 200 * (AD + C)) (hf0 : f0 < ft) (hv1 : xs (6 * k9 + 1) = nI f0) (hlv : lvF ft st tn f0) (hk : 5 ≤ (kd f0).toInt) (hnext : ∀ (cp1 cl1 U1 : Nat) (H : Heap) (locs : List Loc) (ls : Array Slot), lawI s dC dI cI cZ cF cO e0 mi x sl sh fa lw dr dx dy tg tx ty wy wx wz br bo aa ro za zw zx zy zg bq bp dq dp lv k0 (k9 + 1) cp1 cl1 U1 H → va_S (fun q : Nat => s.heap.size ≤ q) s.heap H locs → lv_has ls 4 [(3, .int (nI (6 * k9))), (2, .ref k0), (1, .ref x), (0, .ref b)] → W p l e room_1 s m #[Value.ref b] below meth c H locs (1000 + 1010 * (k9 + 1) + cp1 + 4 * cl1) (45000 + 8192 * cp1 + 512 * cl1 + U1) (lw_Z below #[Value.ref b] s) (F0 m 1081 ls [])) : W p l e room_1 s m #[Value.ref b] below meth c H locs (1000 + 1010 * k9 + cp + 4 * cl) (45000 + 8192 * cp + 512 * cl + U) (lw_Z below #[Value.ref b] s) (F0 m 913 ls []) := by
  obtain ⟨hP, hD⟩ := hPD
  obtain ⟨hx, hb, hr, hml, hown, hts1, hX, hbl, hlocks, hgv⟩ := id C0
  have hts : ∀ w9 ∈ ws0, w9.before #[Value.ref b] s = true := fun w9 h => hts1 w9 (List.mem_filter.mp h).1
  have hA : ∀ q : Nat, s.heap.size ≤ q → (fun q : Nat => s.heap.size ≤ q) q := fun _ h => h
  have hbA : ¬ (fun q : Nat => s.heap.size ≤ q) b := Nat.not_le.mpr hbl
  have hXN := hXL.1
  have hK3 := hK.sub [0, 1, 2] rfl
  obtain ⟨hm0, hm19, hm20, hm21⟩ := hM
  have hpo := shB_po hB
  have hK512 : k9 + 1 ≤ 512 := (by omega)
  have hwfS := hI.1.1
  have hbdC := hI.1.2.2.1
  have hT0 := hI.1.2.2.2
  have hd9 := hpo.1
  have h200t : ∀ t, bs ≤ t → t ≤ T → FT t ≤ 200 := fun t t1 t2 => Nat.le_trans (hpo.2.1 t T t1 t2 (Nat.le_refl _)) hd9.2.2.2.2
  have h200f : ft ≤ 200 := (by rw [hd9.2.2.2.1]; exact h200t dn hd9.1 hd9.2.1)
  have hrkA : ∀ q, lvF ft st tn q → 0 ≤ (rk q).toInt ∧ (rk q).toInt ≤ 9 := fun q hq => (hI.1.2.1 q (Nat.lt_of_lt_of_le hq.1 (by rw [hd9.2.2.2.1]; exact hpo.2.1 dn T hd9.1 hd9.2.1 (Nat.le_refl _)))).1
  have hwdA : ∀ q, q < ft → 0 ≤ (wd q).toInt ∧ (wd q).toInt ≤ 100 := fun q hq => (hI.1.2.1 q (Nat.lt_of_lt_of_le hq (by rw [hd9.2.2.2.1]; exact hpo.2.1 dn T hd9.1 hd9.2.1 (Nat.le_refl _)))).2
  have hcp5 := INV_cp hI (by omega)
  have hcp1 := hI.2.2.1.2.1
  have hcnt := hI.2.2.2.1
  have hlst := hI.2.2.2.2
  have hlb := mul_514 (a := Sn) (b := C) (by omega)
  have hftA := bdC_F hbdC
  have hrm := room_c (Sn := Sn) (AD := AD) (C := C) (c := cp) (cl := cl) (U := U) (by omega) hI.2.2.1.2.2.2.2.2 hlst.2.2.2.1 hU
  have hrc : 1000 + 1010 * k9 + cp + 4 * cl ≤ 600000 := (by omega)
  have hefA : ∀ q, lvF ft st tn q → 1 ≤ eO (kd q).toInt (nN (mn q)) := fun q hq => eO_1 (wfS_kn hwfS q hq)
  refine la_23_1 l C0 hk9 hL9 hS hl (hv1) ?_
  obtain ⟨hPc, hDc, hFc⟩ := zt_3 hP hD hS hA
  refine zcalle (va_runV (As := [.int (nI f0)]) (rest := []) ⟨hx, hb, hml, hown, hts⟩ (k_size_w l dC dI cI cZ cF H.size x sh lw ro bq bp dq dp lv sl (nI bs) ul su (nI dn) fa ft FA f0 L f kd st tn mn cx cy rk wd tw pa pb gb it (h200f) (hf0) (shB_va hB) (wfS_ok hwfS) (hlv)) (csV_269 hts rfl rfl ⟨Nat.le_of_ble_eq_true rfl, Nat.le_of_ble_eq_true rfl⟩) (zPV2 (q0 := 0) (ci := 8) hPc hDc hK3 hXN rfl rfl) rfl rfl hl.1 rfl (lv_room (Nat.le_of_ble_eq_true rfl)) dL_law_919 ⟨hrc, hrm⟩) hS hFc hFc (fun v9 t H locs ht hB hk1 hS => ?_)
  obtain ⟨q_1, rfl, hP1, hD1⟩ := hB
  refine W.eq (g2 := F0 m 922 ls [.long q_1]) rfl ?_
  rw [ht] at hP1
  obtain ⟨hP, hD⟩ := zs_3  hP hD hk1 hFc hP1 hD1
  clear hk1 hPc hDc hFc hP1 hD1 ht
  refine lv_pop2_2 hx hb dL_law_922 rfl ?_
  refine la_23_2 l C0 hk9 hL9 hS hl (hv1) ?_
  obtain ⟨hPc, hDc, hFc⟩ := zt_7 hP hD hS hA
  refine zcall (st1 := [.long (jI ((arF mn cx cy f0 : Nat) : Int))]) (va_runV (As := [.int (nI f0)]) (rest := []) ⟨hx, hb, hml, hown, hts⟩ (k_M_size_a l dC dI cI cZ cF H.size k0 a (upd I0 26 (nI ln)) J0 f0 ft st tn kd mn cx cy S0 (hm0) (h200f) (wfS_wf hwfS) (by first | with_reducible assumption | omega) (hlv) (hk)) (csV_270 hts rfl rfl ⟨Nat.le_of_ble_eq_true rfl, Nat.le_of_ble_eq_true rfl⟩) (zPV2 (q0 := 0) (ci := 9) hPc hDc hK3 hXN rfl rfl) rfl rfl hl.1 rfl (lv_room (Nat.le_of_ble_eq_true rfl)) dL_law_929 ⟨hrc, hrm⟩) hS hFc hFc rfl (fun t H locs ht hB hk1 hS => ?_)
  obtain ⟨q_2, hP1, hD1⟩ := hB
  rw [ht] at hP1
  obtain ⟨hP, hD⟩ := zs_7 (u53 := (oa (a 32) cI 8 q_2)) hP hD hk1 hFc hP1 hD1
  clear hk1 hPc hDc hFc hP1 hD1 ht
  refine lv_pop2_2 hx hb dL_law_932 rfl ?_
  refine lv_goto (tgt := 1081) hx hb dL_law_933 rfl ?_
  obtain ⟨hP9, hD9⟩ := And.intro hP hD
  refine W.widen (k := 1000 + 1010 * (k9 + 1) + cp + 4 * cl) (n := 45000 + 8192 * cp + 512 * cl + U) (by first | exact wdK | omega) (by first | exact Nat.le_refl _ | omega) ?_
  exact hnext cp cl U H locs ls (lawI_in L f FA ea nd nt nw ul su mc9 rd rt rw P Q TX TY WX WY AR b1 b2 b3 b4 b5 b6 b7 b8 c1 c2 c3 c4 a1 a2 a3 a4 nv RA WT EX EY GR LV y1 y2 y3 y4 a I0 J0 kd st gb it pa pb rk wd tw tn mn cx cy sa shs wh of9 we la lb lc ld P0 Q0 q_2 ox oy mt wi ins T0 fl mk jx jy gr bs dn T ft Sn AD C ln FT cc W9 V VX VY hP9 hD9 (hB) (INV_K hI) ⟨hm0, hm19, hm20, hm21⟩ (by first | exact hU | omega)) hS (lv_sub hl [0, 1, 2, 3] rfl)
set_option maxHeartbeats 4000000 in
set_option maxRecDepth 100000 in
theorem lc_size_l {p : Program} {e : Env} {s : State} {m : MethodId} {below : List Frame} {meth : Method} {c : Code} (l : Launch) {b L9 : Nat} {xs : Nat → Int32} (C0 : lw_At p s m meth c b L9 xs) (dC : Nat → ClassId) (dI : Nat → Nat → Nat) (cI cZ cF cO : ClassId) (e0 mi : Nat) (x sl sh fa lw dr dx dy tg tx ty wy wx wz br bo aa ro za zw zx zy zg bq bp dq dp lv k0 : Nat) (hK : va_K (dC, dI) classes (zTyO cI cZ cF cO) s) (hXL : zXL e0 mi (fun q : Nat => s.heap.size ≤ q) s) (L : List Nat) (f : Nat → va_E) (FA : Nat → Option Nat) (ea : Nat) (nd : Nat) (nt : Nat) (nw : Nat) (ul : Int32) (su : Int32) (mc9 : Int32) (rd : Int32) (rt : Int32) (rw : Int32) (P : Nat → Int32) (Q : Nat → Int32) (TX : Nat → Int32) (TY : Nat → Int32) (WX : Nat → Int32) (WY : Nat → Int32) (AR : Nat → Int32) (b1 : Int32) (b2 : Int32) (b3 : Int32) (b4 : Int32) (b5 : Int32) (b6 : Int32) (b7 : Int32) (b8 : Int32) (c1 : Int32) (c2 : Int32) (c3 : Int32) (c4 : Int32) (a1 : Int32) (a2 : Int32) (a3 : Int32) (a4 : Int32) (nv : Int32) (RA : Nat → Option Nat) (WT : Nat → Int32) (EX : Nat → Int32) (EY : Nat → Int32) (GR : Nat → Int32) (LV : Nat → Int32) (y1 : Int64) (y2 : Int64) (y3 : Int64) (y4 : Int64) (a : Nat → Nat) (I0 : Nat → Int32) (J0 : Nat → Int64) (kd : Nat → Int32) (st : Nat → Int32) (gb : Nat → Int32) (it : Nat → Int32) (pa : Nat → Int32) (pb : Nat → Int32) (rk : Nat → Int32) (wd : Nat → Int32) (tw : Nat → Int32) (tn : Nat → Int32) (mn : Nat → Int32) (cx : Nat → Int32) (cy : Nat → Int32) (sa : Nat → Int32) (shs : Nat → Int32) (wh : Nat → Int32) (of9 : Nat → Int32) (we : Nat → Int32) (la : Nat → Int32) (lb : Nat → Int32) (lc : Nat → Int32) (ld : Nat → Int32) (P0 : Nat → Int32) (Q0 : Nat → Int32) (S0 : Nat → Int32) (ox : Nat → Int32) (oy : Nat → Int32) (mt : Nat → Int32) (wi : Nat → Int32) (ins : Nat → Int32) (T0 : Nat → Int32) (fl : Nat → Int32) (mk : Nat → Int32) (jx : Nat → Int32) (jy : Nat → Int32) (gr : Nat → Int32) (bs : Nat) (dn : Nat) (T : Nat) (ft : Nat) (Sn : Nat) (AD : Nat) (C : Nat) (ln : Nat) (FT : Nat → Nat) (cc : Nat → Nat) (W9 : Nat → Nat) (V : Nat → Nat → Nat → Int32) (VX : Nat → Nat → Int32) (VY : Nat → Nat → Int32) (cp cl U k9 : Nat) (hk9 : 6 * k9 + 6 ≤ L9) (hL9 : L9 ≤ 3072) (f0 : Nat) {H : Heap} {locs : List Loc} {ls : Array Slot} (hPD : zPD (dC, dI) classes (fun q : Nat => s.heap.size ≤ q) (((oc8 x (.ref sh) (.ref lw) (.ref ro) (.ref bq) (.ref bp) (.ref dq) (.ref dp) (.ref lv) (.ref sl) (nI dn) (nI bs) ul su) :: (oc10 sl mc9 (.ref ea) (nI T)) :: (oc7 sh (.ref fa) (nI ft)) :: (oq fa cF 200 FA) :: (oc3 lw (.ref dr) (.ref tg) (.ref wy) (.ref br) (.ref bo) (.ref aa)) :: (oc6 dr (.ref dx) (.ref dy) (nI nd) rd) :: (oa dx cI 40 P) :: (oa dy cI 40 Q) :: (oc6 tg (.ref tx) (.ref ty) (nI nt) rt) :: (oa tx cI 3 TX) :: (oa ty cI 3 TY) :: (oc6 wy (.ref wx) (.ref wz) (nI nw) rw) :: (oa wx cI 2 WX) :: (oa wz cI 2 WY) :: (oc0 br b1 b2 b3 b4) :: (oc0 bo b5 b6 b7 b8) :: (oa aa cI 40 AR) :: (oc5 ro (.ref za) (.ref zw) (.ref zx) (.ref zy) (.ref zg) nv) :: (oq za cF 200 RA) :: (oa zw cI 200 WT) :: (oa zx cI 400 EX) :: (oa zy cI 400 EY) :: (oa zg cI 400 GR) :: (oc0 bq c1 c2 c3 c4) :: (oc0 bp a1 a2 a3 a4) :: (oc2 dq y1 y2) :: (oc2 dp y3 y4) :: (oa lv cZ 200 LV) :: (om k0 a (upd I0 26 (nI ln)) J0) :: (oa (a 1) cI 201 kd) :: (oa (a 5) cI 201 st) :: (oa (a 7) cI 201 gb) :: (oa (a 10) cI 201 it) :: (oa (a 8) cI 201 pa) :: (oa (a 9) cI 201 pb) :: (oa (a 2) cI 201 rk) :: (oa (a 3) cI 201 wd) :: (oa (a 4) cI 201 tw) :: (oa (a 6) cZ 201 tn) :: (oa (a 11) cI 201 mn) :: (oa (a 12) cI 8040 cx) :: (oa (a 13) cI 8040 cy) :: (oa (a 27) cI 516 sa) :: (oa (a 28) cI (4096 * cp) shs) :: (oa (a 16) cI 514 wh) :: (oa (a 17) cI 514 of9) :: (oa (a 18) cI 514 we) :: (oa (a 22) cI (64 * cl) la) :: (oa (a 23) cI (64 * cl) lb) :: (oa (a 24) cI (64 * cl) lc) :: (oa (a 25) cI (64 * cl) ld) :: (oa (a 29) cI 42 P0) :: (oa (a 30) cI 42 Q0) :: (oa (a 32) cI 8 S0) :: (oa (a 33) cI 42 ox) :: (oa (a 34) cI 42 oy) :: (oa (a 37) cZ 201 mt) :: (oa (a 38) cZ 201 wi) :: (oa (a 39) cZ 8040 ins) :: (oa (a 40) cI 6 T0) :: (oa (a 43) cZ 40 fl) :: (oa (a 50) cZ 201 mk) :: (oa (a 51) cI 402 jx) :: (oa (a 52) cI 402 jy) :: (oa (a 53) cI 402 gr) :: []) ++ va_pl L f) H) (hS : va_S (fun q : Nat => s.heap.size ≤ q) s.heap H locs) (hl : lv_has ls 4 [(3, .int (nI (6 * k9))), (2, .ref k0), (1, .ref x), (0, .ref b)]) (hB : shB cI cO L f e0 FA ea bs dn T ft FT V VX VY tn rk wd tw pa pb wh of9 we kd st gb it mn cx cy) (hI : INV k9 Sn AD C cc W9 bs T ft cp ln cl FT V VX VY tn rk wd tw pa pb kd st it mn cx cy sa shs lb lc) (hM : I0 0 = nI ft ∧ I0 19 = nI dn ∧ I0 20 = nI (T - dn) ∧ I0 21 = nI bs) (hU : U ≤ Sn * (28 * (AD + C) + 1000) + 200 * (AD + C)) (hf0 : f0 < ft) (hv1 : xs (6 * k9 + 1) = nI f0) (hlv : lvF ft st tn f0) (hk : ¬ 5 ≤ (kd f0).toInt ∧ ¬ (kd f0).toInt = 0) (hnext : ∀ (cp1 cl1 U1 : Nat) (H : Heap) (locs : List Loc) (ls : Array Slot), lawI s dC dI cI cZ cF cO e0 mi x sl sh fa lw dr dx dy tg tx ty wy wx wz br bo aa ro za zw zx zy zg bq bp dq dp lv k0 (k9 + 1) cp1 cl1 U1 H → va_S (fun q : Nat => s.heap.size ≤ q) s.heap H locs → lv_has ls 4 [(3, .int (nI (6 * k9))), (2, .ref k0), (1, .ref x), (0, .ref b)] → W p l e room_1 s m #[Value.ref b] below meth c H locs (1000 + 1010 * (k9 + 1) + cp1 + 4 * cl1) (45000 + 8192 * cp1 + 512 * cl1 + U1) (lw_Z below #[Value.ref b] s) (F0 m 1081 ls [])) : W p l e room_1 s m #[Value.ref b] below meth c H locs (1000 + 1010 * k9 + cp + 4 * cl) (45000 + 8192 * cp + 512 * cl + U) (lw_Z below #[Value.ref b] s) (F0 m 913 ls []) := by
  obtain ⟨hP, hD⟩ := hPD
  obtain ⟨hx, hb, hr, hml, hown, hts1, hX, hbl, hlocks, hgv⟩ := id C0
  have hts : ∀ w9 ∈ ws0, w9.before #[Value.ref b] s = true := fun w9 h => hts1 w9 (List.mem_filter.mp h).1
  have hA : ∀ q : Nat, s.heap.size ≤ q → (fun q : Nat => s.heap.size ≤ q) q := fun _ h => h
  have hbA : ¬ (fun q : Nat => s.heap.size ≤ q) b := Nat.not_le.mpr hbl
  have hXN := hXL.1
  have hK3 := hK.sub [0, 1, 2] rfl
  obtain ⟨hm0, hm19, hm20, hm21⟩ := hM
  have hpo := shB_po hB
  have hK512 : k9 + 1 ≤ 512 := (by omega)
  have hwfS := hI.1.1
  have hbdC := hI.1.2.2.1
  have hT0 := hI.1.2.2.2
  have hd9 := hpo.1
  have h200t : ∀ t, bs ≤ t → t ≤ T → FT t ≤ 200 := fun t t1 t2 => Nat.le_trans (hpo.2.1 t T t1 t2 (Nat.le_refl _)) hd9.2.2.2.2
  have h200f : ft ≤ 200 := (by rw [hd9.2.2.2.1]; exact h200t dn hd9.1 hd9.2.1)
  have hrkA : ∀ q, lvF ft st tn q → 0 ≤ (rk q).toInt ∧ (rk q).toInt ≤ 9 := fun q hq => (hI.1.2.1 q (Nat.lt_of_lt_of_le hq.1 (by rw [hd9.2.2.2.1]; exact hpo.2.1 dn T hd9.1 hd9.2.1 (Nat.le_refl _)))).1
  have hwdA : ∀ q, q < ft → 0 ≤ (wd q).toInt ∧ (wd q).toInt ≤ 100 := fun q hq => (hI.1.2.1 q (Nat.lt_of_lt_of_le hq (by rw [hd9.2.2.2.1]; exact hpo.2.1 dn T hd9.1 hd9.2.1 (Nat.le_refl _)))).2
  have hcp5 := INV_cp hI (by omega)
  have hcp1 := hI.2.2.1.2.1
  have hcnt := hI.2.2.2.1
  have hlst := hI.2.2.2.2
  have hlb := mul_514 (a := Sn) (b := C) (by omega)
  have hftA := bdC_F hbdC
  have hrm := room_c (Sn := Sn) (AD := AD) (C := C) (c := cp) (cl := cl) (U := U) (by omega) hI.2.2.1.2.2.2.2.2 hlst.2.2.2.1 hU
  have hrc : 1000 + 1010 * k9 + cp + 4 * cl ≤ 600000 := (by omega)
  have hefA : ∀ q, lvF ft st tn q → 1 ≤ eO (kd q).toInt (nN (mn q)) := fun q hq => eO_1 (wfS_kn hwfS q hq)
  refine la_23_1 l C0 hk9 hL9 hS hl (hv1) ?_
  obtain ⟨hPc, hDc, hFc⟩ := zt_3 hP hD hS hA
  refine zcalle (va_runV (As := [.int (nI f0)]) (rest := []) ⟨hx, hb, hml, hown, hts⟩ (k_size_w l dC dI cI cZ cF H.size x sh lw ro bq bp dq dp lv sl (nI bs) ul su (nI dn) fa ft FA f0 L f kd st tn mn cx cy rk wd tw pa pb gb it (h200f) (hf0) (shB_va hB) (wfS_ok hwfS) (hlv)) (csV_269 hts rfl rfl ⟨Nat.le_of_ble_eq_true rfl, Nat.le_of_ble_eq_true rfl⟩) (zPV2 (q0 := 0) (ci := 8) hPc hDc hK3 hXN rfl rfl) rfl rfl hl.1 rfl (lv_room (Nat.le_of_ble_eq_true rfl)) dL_law_919 ⟨hrc, hrm⟩) hS hFc hFc (fun v9 t H locs ht hB hk1 hS => ?_)
  obtain ⟨q_1, rfl, hP1, hD1⟩ := hB
  refine W.eq (g2 := F0 m 922 ls [.long q_1]) rfl ?_
  rw [ht] at hP1
  obtain ⟨hP, hD⟩ := zs_3  hP hD hk1 hFc hP1 hD1
  clear hk1 hPc hDc hFc hP1 hD1 ht
  refine lv_pop2_2 hx hb dL_law_922 rfl ?_
  refine la_23_2 l C0 hk9 hL9 hS hl (hv1) ?_
  obtain ⟨hPc, hDc, hFc⟩ := zt_7 hP hD hS hA
  refine zcall (st1 := [.long (jI ((ln2 (cF40 cx f0) (cF40 cy f0) (nN (mn f0) - 1) : Nat) : Int))]) (va_runV (As := [.int (nI f0)]) (rest := []) ⟨hx, hb, hml, hown, hts⟩ (k_M_size_l l dC dI cI cZ cF H.size k0 a (upd I0 26 (nI ln)) J0 f0 ft st tn kd mn cx cy S0 (hm0) (h200f) (wfS_wf hwfS) (by first | with_reducible assumption | omega) (hlv) (hk)) (csV_270 hts rfl rfl ⟨Nat.le_of_ble_eq_true rfl, Nat.le_of_ble_eq_true rfl⟩) (zPV2 (q0 := 0) (ci := 9) hPc hDc hK3 hXN rfl rfl) rfl rfl hl.1 rfl (lv_room (Nat.le_of_ble_eq_true rfl)) dL_law_929 ⟨hrc, hrm⟩) hS hFc hFc rfl (fun t H locs ht hB hk1 hS => ?_)
  obtain ⟨q_2, hP1, hD1⟩ := hB
  rw [ht] at hP1
  obtain ⟨hP, hD⟩ := zs_7 (u53 := (oa (a 32) cI 8 q_2)) hP hD hk1 hFc hP1 hD1
  clear hk1 hPc hDc hFc hP1 hD1 ht
  refine lv_pop2_2 hx hb dL_law_932 rfl ?_
  refine lv_goto (tgt := 1081) hx hb dL_law_933 rfl ?_
  obtain ⟨hP9, hD9⟩ := And.intro hP hD
  refine W.widen (k := 1000 + 1010 * (k9 + 1) + cp + 4 * cl) (n := 45000 + 8192 * cp + 512 * cl + U) (by first | exact wdK | omega) (by first | exact Nat.le_refl _ | omega) ?_
  exact hnext cp cl U H locs ls (lawI_in L f FA ea nd nt nw ul su mc9 rd rt rw P Q TX TY WX WY AR b1 b2 b3 b4 b5 b6 b7 b8 c1 c2 c3 c4 a1 a2 a3 a4 nv RA WT EX EY GR LV y1 y2 y3 y4 a I0 J0 kd st gb it pa pb rk wd tw tn mn cx cy sa shs wh of9 we la lb lc ld P0 Q0 q_2 ox oy mt wi ins T0 fl mk jx jy gr bs dn T ft Sn AD C ln FT cc W9 V VX VY hP9 hD9 (hB) (INV_K hI) ⟨hm0, hm19, hm20, hm21⟩ (by first | exact hU | omega)) hS (lv_sub hl [0, 1, 2, 3] rfl)
set_option maxHeartbeats 4000000 in
set_option maxRecDepth 100000 in
theorem lc_at_x {p : Program} {e : Env} {s : State} {m : MethodId} {below : List Frame} {meth : Method} {c : Code} (l : Launch) {b L9 : Nat} {xs : Nat → Int32} (C0 : lw_At p s m meth c b L9 xs) (dC : Nat → ClassId) (dI : Nat → Nat → Nat) (cI cZ cF cO : ClassId) (e0 mi : Nat) (x sl sh fa lw dr dx dy tg tx ty wy wx wz br bo aa ro za zw zx zy zg bq bp dq dp lv k0 : Nat) (hK : va_K (dC, dI) classes (zTyO cI cZ cF cO) s) (hXL : zXL e0 mi (fun q : Nat => s.heap.size ≤ q) s) (L : List Nat) (f : Nat → va_E) (FA : Nat → Option Nat) (ea : Nat) (nd : Nat) (nt : Nat) (nw : Nat) (ul : Int32) (su : Int32) (mc9 : Int32) (rd : Int32) (rt : Int32) (rw : Int32) (P : Nat → Int32) (Q : Nat → Int32) (TX : Nat → Int32) (TY : Nat → Int32) (WX : Nat → Int32) (WY : Nat → Int32) (AR : Nat → Int32) (b1 : Int32) (b2 : Int32) (b3 : Int32) (b4 : Int32) (b5 : Int32) (b6 : Int32) (b7 : Int32) (b8 : Int32) (c1 : Int32) (c2 : Int32) (c3 : Int32) (c4 : Int32) (a1 : Int32) (a2 : Int32) (a3 : Int32) (a4 : Int32) (nv : Int32) (RA : Nat → Option Nat) (WT : Nat → Int32) (EX : Nat → Int32) (EY : Nat → Int32) (GR : Nat → Int32) (LV : Nat → Int32) (y1 : Int64) (y2 : Int64) (y3 : Int64) (y4 : Int64) (a : Nat → Nat) (I0 : Nat → Int32) (J0 : Nat → Int64) (kd : Nat → Int32) (st : Nat → Int32) (gb : Nat → Int32) (it : Nat → Int32) (pa : Nat → Int32) (pb : Nat → Int32) (rk : Nat → Int32) (wd : Nat → Int32) (tw : Nat → Int32) (tn : Nat → Int32) (mn : Nat → Int32) (cx : Nat → Int32) (cy : Nat → Int32) (sa : Nat → Int32) (shs : Nat → Int32) (wh : Nat → Int32) (of9 : Nat → Int32) (we : Nat → Int32) (la : Nat → Int32) (lb : Nat → Int32) (lc : Nat → Int32) (ld : Nat → Int32) (P0 : Nat → Int32) (Q0 : Nat → Int32) (S0 : Nat → Int32) (ox : Nat → Int32) (oy : Nat → Int32) (mt : Nat → Int32) (wi : Nat → Int32) (ins : Nat → Int32) (T0 : Nat → Int32) (fl : Nat → Int32) (mk : Nat → Int32) (jx : Nat → Int32) (jy : Nat → Int32) (gr : Nat → Int32) (bs : Nat) (dn : Nat) (T : Nat) (ft : Nat) (Sn : Nat) (AD : Nat) (C : Nat) (ln : Nat) (FT : Nat → Nat) (cc : Nat → Nat) (W9 : Nat → Nat) (V : Nat → Nat → Nat → Int32) (VX : Nat → Nat → Int32) (VY : Nat → Nat → Int32) (cp cl U k9 : Nat) (hk9 : 6 * k9 + 6 ≤ L9) (hL9 : L9 ≤ 3072) {H : Heap} {locs : List Loc} {ls : Array Slot} (hPD : zPD (dC, dI) classes (fun q : Nat => s.heap.size ≤ q) (((oc8 x (.ref sh) (.ref lw) (.ref ro) (.ref bq) (.ref bp) (.ref dq) (.ref dp) (.ref lv) (.ref sl) (nI dn) (nI bs) ul su) :: (oc10 sl mc9 (.ref ea) (nI T)) :: (oc7 sh (.ref fa) (nI ft)) :: (oq fa cF 200 FA) :: (oc3 lw (.ref dr) (.ref tg) (.ref wy) (.ref br) (.ref bo) (.ref aa)) :: (oc6 dr (.ref dx) (.ref dy) (nI nd) rd) :: (oa dx cI 40 P) :: (oa dy cI 40 Q) :: (oc6 tg (.ref tx) (.ref ty) (nI nt) rt) :: (oa tx cI 3 TX) :: (oa ty cI 3 TY) :: (oc6 wy (.ref wx) (.ref wz) (nI nw) rw) :: (oa wx cI 2 WX) :: (oa wz cI 2 WY) :: (oc0 br b1 b2 b3 b4) :: (oc0 bo b5 b6 b7 b8) :: (oa aa cI 40 AR) :: (oc5 ro (.ref za) (.ref zw) (.ref zx) (.ref zy) (.ref zg) nv) :: (oq za cF 200 RA) :: (oa zw cI 200 WT) :: (oa zx cI 400 EX) :: (oa zy cI 400 EY) :: (oa zg cI 400 GR) :: (oc0 bq c1 c2 c3 c4) :: (oc0 bp a1 a2 a3 a4) :: (oc2 dq y1 y2) :: (oc2 dp y3 y4) :: (oa lv cZ 200 LV) :: (om k0 a (upd I0 26 (nI ln)) J0) :: (oa (a 1) cI 201 kd) :: (oa (a 5) cI 201 st) :: (oa (a 7) cI 201 gb) :: (oa (a 10) cI 201 it) :: (oa (a 8) cI 201 pa) :: (oa (a 9) cI 201 pb) :: (oa (a 2) cI 201 rk) :: (oa (a 3) cI 201 wd) :: (oa (a 4) cI 201 tw) :: (oa (a 6) cZ 201 tn) :: (oa (a 11) cI 201 mn) :: (oa (a 12) cI 8040 cx) :: (oa (a 13) cI 8040 cy) :: (oa (a 27) cI 516 sa) :: (oa (a 28) cI (4096 * cp) shs) :: (oa (a 16) cI 514 wh) :: (oa (a 17) cI 514 of9) :: (oa (a 18) cI 514 we) :: (oa (a 22) cI (64 * cl) la) :: (oa (a 23) cI (64 * cl) lb) :: (oa (a 24) cI (64 * cl) lc) :: (oa (a 25) cI (64 * cl) ld) :: (oa (a 29) cI 42 P0) :: (oa (a 30) cI 42 Q0) :: (oa (a 32) cI 8 S0) :: (oa (a 33) cI 42 ox) :: (oa (a 34) cI 42 oy) :: (oa (a 37) cZ 201 mt) :: (oa (a 38) cZ 201 wi) :: (oa (a 39) cZ 8040 ins) :: (oa (a 40) cI 6 T0) :: (oa (a 43) cZ 40 fl) :: (oa (a 50) cZ 201 mk) :: (oa (a 51) cI 402 jx) :: (oa (a 52) cI 402 jy) :: (oa (a 53) cI 402 gr) :: []) ++ va_pl L f) H) (hS : va_S (fun q : Nat => s.heap.size ≤ q) s.heap H locs) (hl : lv_has ls 4 [(3, .int (nI (6 * k9))), (2, .ref k0), (1, .ref x), (0, .ref b)]) (hB : shB cI cO L f e0 FA ea bs dn T ft FT V VX VY tn rk wd tw pa pb wh of9 we kd st gb it mn cx cy) (hI : INV k9 Sn AD C cc W9 bs T ft cp ln cl FT V VX VY tn rk wd tw pa pb kd st it mn cx cy sa shs lb lc) (hM : I0 0 = nI ft ∧ I0 19 = nI dn ∧ I0 20 = nI (T - dn) ∧ I0 21 = nI bs) (hU : U ≤ Sn * (28 * (AD + C) + 1000) + 200 * (AD + C)) (hbad : ¬ (0 ≤ (xs (6 * k9 + 1)).toInt ∧ (xs (6 * k9 + 1)).toInt < ((ft : Nat) : Int))) (hnext : ∀ (cp1 cl1 U1 : Nat) (H : Heap) (locs : List Loc) (ls : Array Slot), lawI s dC dI cI cZ cF cO e0 mi x sl sh fa lw dr dx dy tg tx ty wy wx wz br bo aa ro za zw zx zy zg bq bp dq dp lv k0 (k9 + 1) cp1 cl1 U1 H → va_S (fun q : Nat => s.heap.size ≤ q) s.heap H locs → lv_has ls 4 [(3, .int (nI (6 * k9))), (2, .ref k0), (1, .ref x), (0, .ref b)] → W p l e room_1 s m #[Value.ref b] below meth c H locs (1000 + 1010 * (k9 + 1) + cp1 + 4 * cl1) (45000 + 8192 * cp1 + 512 * cl1 + U1) (lw_Z below #[Value.ref b] s) (F0 m 1081 ls [])) : W p l e room_1 s m #[Value.ref b] below meth c H locs (1000 + 1010 * k9 + cp + 4 * cl) (45000 + 8192 * cp + 512 * cl + U) (lw_Z below #[Value.ref b] s) (F0 m 936 ls []) := by
  obtain ⟨hP, hD⟩ := hPD
  obtain ⟨hx, hb, hr, hml, hown, hts1, hX, hbl, hlocks, hgv⟩ := id C0
  have hts : ∀ w9 ∈ ws0, w9.before #[Value.ref b] s = true := fun w9 h => hts1 w9 (List.mem_filter.mp h).1
  have hA : ∀ q : Nat, s.heap.size ≤ q → (fun q : Nat => s.heap.size ≤ q) q := fun _ h => h
  have hbA : ¬ (fun q : Nat => s.heap.size ≤ q) b := Nat.not_le.mpr hbl
  have hXN := hXL.1
  have hK3 := hK.sub [0, 1, 2] rfl
  obtain ⟨hm0, hm19, hm20, hm21⟩ := hM
  have hpo := shB_po hB
  have hK512 : k9 + 1 ≤ 512 := (by omega)
  have hwfS := hI.1.1
  have hbdC := hI.1.2.2.1
  have hT0 := hI.1.2.2.2
  have hd9 := hpo.1
  have h200t : ∀ t, bs ≤ t → t ≤ T → FT t ≤ 200 := fun t t1 t2 => Nat.le_trans (hpo.2.1 t T t1 t2 (Nat.le_refl _)) hd9.2.2.2.2
  have h200f : ft ≤ 200 := (by rw [hd9.2.2.2.1]; exact h200t dn hd9.1 hd9.2.1)
  have hrkA : ∀ q, lvF ft st tn q → 0 ≤ (rk q).toInt ∧ (rk q).toInt ≤ 9 := fun q hq => (hI.1.2.1 q (Nat.lt_of_lt_of_le hq.1 (by rw [hd9.2.2.2.1]; exact hpo.2.1 dn T hd9.1 hd9.2.1 (Nat.le_refl _)))).1
  have hwdA : ∀ q, q < ft → 0 ≤ (wd q).toInt ∧ (wd q).toInt ≤ 100 := fun q hq => (hI.1.2.1 q (Nat.lt_of_lt_of_le hq (by rw [hd9.2.2.2.1]; exact hpo.2.1 dn T hd9.1 hd9.2.1 (Nat.le_refl _)))).2
  have hcp5 := INV_cp hI (by omega)
  have hcp1 := hI.2.2.1.2.1
  have hcnt := hI.2.2.2.1
  have hlst := hI.2.2.2.2
  have hlb := mul_514 (a := Sn) (b := C) (by omega)
  have hftA := bdC_F hbdC
  have hrm := room_c (Sn := Sn) (AD := AD) (C := C) (c := cp) (cl := cl) (U := U) (by omega) hI.2.2.1.2.2.2.2.2 hlst.2.2.2.1 hU
  have hrc : 1000 + 1010 * k9 + cp + 4 * cl ≤ 600000 := (by omega)
  have hefA : ∀ q, lvF ft st tn q → 1 ≤ eO (kd q).toInt (nN (mn q)) := fun q hq => eO_1 (wfS_kn hwfS q hq)
  refine la_24_1 l C0 hk9 hL9 hS hl (rfl) (rfl) (rfl) ?_
  obtain ⟨hPc, hDc, hFc⟩ := zt_1 hP hD hS hA
  refine zcall (st1 := [.int (-1)]) (va_runV (As := [.int (xs (6 * k9 + 1)), .int (xs (6 * k9 + 2)), .int (xs (6 * k9 + 3))]) (rest := []) ⟨hx, hb, hml, hown, hts⟩ (k_at_x l dC dI cI cZ cF H.size x sh lw ro bq bp dq dp lv sl (nI bs) ul su (nI dn) fa ft FA (xs (6 * k9 + 1)) (xs (6 * k9 + 2)) (xs (6 * k9 + 3)) (h200f) (hbad)) (csV_271 hts rfl rfl ⟨Nat.le_of_ble_eq_true rfl, Nat.le_of_ble_eq_true rfl⟩) (zPV2 (q0 := 0) (ci := 8) hPc hDc hK3 hXN rfl rfl) rfl rfl hl.1 rfl (lv_room (Nat.le_of_ble_eq_true rfl)) dL_law_952 ⟨hrc, hrm⟩) hS hFc hFc rfl (fun t H locs ht hB hk1 hS => ?_)
  obtain ⟨hP1, hD1⟩ := hB
  rw [ht] at hP1
  obtain ⟨hP, hD⟩ := zs_1  hP hD hk1 hFc hP1 hD1
  clear hk1 hPc hDc hFc hP1 hD1 ht
  refine lv_pop hx hb dL_law_955 rfl ?_
  refine la_24_2 l C0 hk9 hL9 hS hl (rfl) (rfl) (rfl) ?_
  obtain ⟨hPc, hDc, hFc⟩ := zt_2 hP hD hS hA
  refine zcall (st1 := [.int (-1)]) (va_runV (As := [.int (xs (6 * k9 + 1)), .int (xs (6 * k9 + 2)), .int (xs (6 * k9 + 3))]) (rest := []) ⟨hx, hb, hml, hown, hts⟩ (k_M_at_x l dC dI cI cZ cF H.size k0 a (upd I0 26 (nI ln)) J0 ft (xs (6 * k9 + 1)) (xs (6 * k9 + 2)) (xs (6 * k9 + 3)) (hm0) (h200f) (hbad)) (csV_272 hts rfl rfl ⟨Nat.le_of_ble_eq_true rfl, Nat.le_of_ble_eq_true rfl⟩) (zPV2 (q0 := 0) (ci := 9) hPc hDc hK3 hXN rfl rfl) rfl rfl hl.1 rfl (lv_room (Nat.le_of_ble_eq_true rfl)) dL_law_972 ⟨hrc, hrm⟩) hS hFc hFc rfl (fun t H locs ht hB hk1 hS => ?_)
  obtain ⟨hP1, hD1⟩ := hB
  rw [ht] at hP1
  obtain ⟨hP, hD⟩ := zs_2  hP hD hk1 hFc hP1 hD1
  clear hk1 hPc hDc hFc hP1 hD1 ht
  refine lv_pop hx hb dL_law_975 rfl ?_
  refine lv_goto (tgt := 1081) hx hb dL_law_976 rfl ?_
  obtain ⟨hP9, hD9⟩ := And.intro hP hD
  refine W.widen (k := 1000 + 1010 * (k9 + 1) + cp + 4 * cl) (n := 45000 + 8192 * cp + 512 * cl + U) (by first | exact wdK | omega) (by first | exact Nat.le_refl _ | omega) ?_
  exact hnext cp cl U H locs ls (lawI_in L f FA ea nd nt nw ul su mc9 rd rt rw P Q TX TY WX WY AR b1 b2 b3 b4 b5 b6 b7 b8 c1 c2 c3 c4 a1 a2 a3 a4 nv RA WT EX EY GR LV y1 y2 y3 y4 a I0 J0 kd st gb it pa pb rk wd tw tn mn cx cy sa shs wh of9 we la lb lc ld P0 Q0 S0 ox oy mt wi ins T0 fl mk jx jy gr bs dn T ft Sn AD C ln FT cc W9 V VX VY hP9 hD9 (hB) (INV_K hI) ⟨hm0, hm19, hm20, hm21⟩ (by first | exact hU | omega)) hS (lv_sub hl [0, 1, 2, 3] rfl)
set_option maxHeartbeats 4000000 in
set_option maxRecDepth 100000 in
theorem lc_at_r {p : Program} {e : Env} {s : State} {m : MethodId} {below : List Frame} {meth : Method} {c : Code} (l : Launch) {b L9 : Nat} {xs : Nat → Int32} (C0 : lw_At p s m meth c b L9 xs) (dC : Nat → ClassId) (dI : Nat → Nat → Nat) (cI cZ cF cO : ClassId) (e0 mi : Nat) (x sl sh fa lw dr dx dy tg tx ty wy wx wz br bo aa ro za zw zx zy zg bq bp dq dp lv k0 : Nat) (hK : va_K (dC, dI) classes (zTyO cI cZ cF cO) s) (hXL : zXL e0 mi (fun q : Nat => s.heap.size ≤ q) s) (L : List Nat) (f : Nat → va_E) (FA : Nat → Option Nat) (ea : Nat) (nd : Nat) (nt : Nat) (nw : Nat) (ul : Int32) (su : Int32) (mc9 : Int32) (rd : Int32) (rt : Int32) (rw : Int32) (P : Nat → Int32) (Q : Nat → Int32) (TX : Nat → Int32) (TY : Nat → Int32) (WX : Nat → Int32) (WY : Nat → Int32) (AR : Nat → Int32) (b1 : Int32) (b2 : Int32) (b3 : Int32) (b4 : Int32) (b5 : Int32) (b6 : Int32) (b7 : Int32) (b8 : Int32) (c1 : Int32) (c2 : Int32) (c3 : Int32) (c4 : Int32) (a1 : Int32) (a2 : Int32) (a3 : Int32) (a4 : Int32) (nv : Int32) (RA : Nat → Option Nat) (WT : Nat → Int32) (EX : Nat → Int32) (EY : Nat → Int32) (GR : Nat → Int32) (LV : Nat → Int32) (y1 : Int64) (y2 : Int64) (y3 : Int64) (y4 : Int64) (a : Nat → Nat) (I0 : Nat → Int32) (J0 : Nat → Int64) (kd : Nat → Int32) (st : Nat → Int32) (gb : Nat → Int32) (it : Nat → Int32) (pa : Nat → Int32) (pb : Nat → Int32) (rk : Nat → Int32) (wd : Nat → Int32) (tw : Nat → Int32) (tn : Nat → Int32) (mn : Nat → Int32) (cx : Nat → Int32) (cy : Nat → Int32) (sa : Nat → Int32) (shs : Nat → Int32) (wh : Nat → Int32) (of9 : Nat → Int32) (we : Nat → Int32) (la : Nat → Int32) (lb : Nat → Int32) (lc : Nat → Int32) (ld : Nat → Int32) (P0 : Nat → Int32) (Q0 : Nat → Int32) (S0 : Nat → Int32) (ox : Nat → Int32) (oy : Nat → Int32) (mt : Nat → Int32) (wi : Nat → Int32) (ins : Nat → Int32) (T0 : Nat → Int32) (fl : Nat → Int32) (mk : Nat → Int32) (jx : Nat → Int32) (jy : Nat → Int32) (gr : Nat → Int32) (bs : Nat) (dn : Nat) (T : Nat) (ft : Nat) (Sn : Nat) (AD : Nat) (C : Nat) (ln : Nat) (FT : Nat → Nat) (cc : Nat → Nat) (W9 : Nat → Nat) (V : Nat → Nat → Nat → Int32) (VX : Nat → Nat → Int32) (VY : Nat → Nat → Int32) (cp cl U k9 : Nat) (hk9 : 6 * k9 + 6 ≤ L9) (hL9 : L9 ≤ 3072) (f0 : Nat) {H : Heap} {locs : List Loc} {ls : Array Slot} (hPD : zPD (dC, dI) classes (fun q : Nat => s.heap.size ≤ q) (((oc8 x (.ref sh) (.ref lw) (.ref ro) (.ref bq) (.ref bp) (.ref dq) (.ref dp) (.ref lv) (.ref sl) (nI dn) (nI bs) ul su) :: (oc10 sl mc9 (.ref ea) (nI T)) :: (oc7 sh (.ref fa) (nI ft)) :: (oq fa cF 200 FA) :: (oc3 lw (.ref dr) (.ref tg) (.ref wy) (.ref br) (.ref bo) (.ref aa)) :: (oc6 dr (.ref dx) (.ref dy) (nI nd) rd) :: (oa dx cI 40 P) :: (oa dy cI 40 Q) :: (oc6 tg (.ref tx) (.ref ty) (nI nt) rt) :: (oa tx cI 3 TX) :: (oa ty cI 3 TY) :: (oc6 wy (.ref wx) (.ref wz) (nI nw) rw) :: (oa wx cI 2 WX) :: (oa wz cI 2 WY) :: (oc0 br b1 b2 b3 b4) :: (oc0 bo b5 b6 b7 b8) :: (oa aa cI 40 AR) :: (oc5 ro (.ref za) (.ref zw) (.ref zx) (.ref zy) (.ref zg) nv) :: (oq za cF 200 RA) :: (oa zw cI 200 WT) :: (oa zx cI 400 EX) :: (oa zy cI 400 EY) :: (oa zg cI 400 GR) :: (oc0 bq c1 c2 c3 c4) :: (oc0 bp a1 a2 a3 a4) :: (oc2 dq y1 y2) :: (oc2 dp y3 y4) :: (oa lv cZ 200 LV) :: (om k0 a (upd I0 26 (nI ln)) J0) :: (oa (a 1) cI 201 kd) :: (oa (a 5) cI 201 st) :: (oa (a 7) cI 201 gb) :: (oa (a 10) cI 201 it) :: (oa (a 8) cI 201 pa) :: (oa (a 9) cI 201 pb) :: (oa (a 2) cI 201 rk) :: (oa (a 3) cI 201 wd) :: (oa (a 4) cI 201 tw) :: (oa (a 6) cZ 201 tn) :: (oa (a 11) cI 201 mn) :: (oa (a 12) cI 8040 cx) :: (oa (a 13) cI 8040 cy) :: (oa (a 27) cI 516 sa) :: (oa (a 28) cI (4096 * cp) shs) :: (oa (a 16) cI 514 wh) :: (oa (a 17) cI 514 of9) :: (oa (a 18) cI 514 we) :: (oa (a 22) cI (64 * cl) la) :: (oa (a 23) cI (64 * cl) lb) :: (oa (a 24) cI (64 * cl) lc) :: (oa (a 25) cI (64 * cl) ld) :: (oa (a 29) cI 42 P0) :: (oa (a 30) cI 42 Q0) :: (oa (a 32) cI 8 S0) :: (oa (a 33) cI 42 ox) :: (oa (a 34) cI 42 oy) :: (oa (a 37) cZ 201 mt) :: (oa (a 38) cZ 201 wi) :: (oa (a 39) cZ 8040 ins) :: (oa (a 40) cI 6 T0) :: (oa (a 43) cZ 40 fl) :: (oa (a 50) cZ 201 mk) :: (oa (a 51) cI 402 jx) :: (oa (a 52) cI 402 jy) :: (oa (a 53) cI 402 gr) :: []) ++ va_pl L f) H) (hS : va_S (fun q : Nat => s.heap.size ≤ q) s.heap H locs) (hl : lv_has ls 4 [(3, .int (nI (6 * k9))), (2, .ref k0), (1, .ref x), (0, .ref b)]) (hB : shB cI cO L f e0 FA ea bs dn T ft FT V VX VY tn rk wd tw pa pb wh of9 we kd st gb it mn cx cy) (hI : INV k9 Sn AD C cc W9 bs T ft cp ln cl FT V VX VY tn rk wd tw pa pb kd st it mn cx cy sa shs lb lc) (hM : I0 0 = nI ft ∧ I0 19 = nI dn ∧ I0 20 = nI (T - dn) ∧ I0 21 = nI bs) (hU : U ≤ Sn * (28 * (AD + C) + 1000) + 200 * (AD + C)) (hf0 : f0 < ft) (hv1 : xs (6 * k9 + 1) = nI f0) (hbad : ¬ ((tn f0).toInt = 0 ∧ 0 ≤ (xs (6 * k9 + 2)).toInt ∧ (xs (6 * k9 + 2)).toInt < ((nN (mn f0) : Nat) : Int))) (hnext : ∀ (cp1 cl1 U1 : Nat) (H : Heap) (locs : List Loc) (ls : Array Slot), lawI s dC dI cI cZ cF cO e0 mi x sl sh fa lw dr dx dy tg tx ty wy wx wz br bo aa ro za zw zx zy zg bq bp dq dp lv k0 (k9 + 1) cp1 cl1 U1 H → va_S (fun q : Nat => s.heap.size ≤ q) s.heap H locs → lv_has ls 4 [(3, .int (nI (6 * k9))), (2, .ref k0), (1, .ref x), (0, .ref b)] → W p l e room_1 s m #[Value.ref b] below meth c H locs (1000 + 1010 * (k9 + 1) + cp1 + 4 * cl1) (45000 + 8192 * cp1 + 512 * cl1 + U1) (lw_Z below #[Value.ref b] s) (F0 m 1081 ls [])) : W p l e room_1 s m #[Value.ref b] below meth c H locs (1000 + 1010 * k9 + cp + 4 * cl) (45000 + 8192 * cp + 512 * cl + U) (lw_Z below #[Value.ref b] s) (F0 m 936 ls []) := by
  obtain ⟨hP, hD⟩ := hPD
  obtain ⟨hx, hb, hr, hml, hown, hts1, hX, hbl, hlocks, hgv⟩ := id C0
  have hts : ∀ w9 ∈ ws0, w9.before #[Value.ref b] s = true := fun w9 h => hts1 w9 (List.mem_filter.mp h).1
  have hA : ∀ q : Nat, s.heap.size ≤ q → (fun q : Nat => s.heap.size ≤ q) q := fun _ h => h
  have hbA : ¬ (fun q : Nat => s.heap.size ≤ q) b := Nat.not_le.mpr hbl
  have hXN := hXL.1
  have hK3 := hK.sub [0, 1, 2] rfl
  obtain ⟨hm0, hm19, hm20, hm21⟩ := hM
  have hpo := shB_po hB
  have hK512 : k9 + 1 ≤ 512 := (by omega)
  have hwfS := hI.1.1
  have hbdC := hI.1.2.2.1
  have hT0 := hI.1.2.2.2
  have hd9 := hpo.1
  have h200t : ∀ t, bs ≤ t → t ≤ T → FT t ≤ 200 := fun t t1 t2 => Nat.le_trans (hpo.2.1 t T t1 t2 (Nat.le_refl _)) hd9.2.2.2.2
  have h200f : ft ≤ 200 := (by rw [hd9.2.2.2.1]; exact h200t dn hd9.1 hd9.2.1)
  have hrkA : ∀ q, lvF ft st tn q → 0 ≤ (rk q).toInt ∧ (rk q).toInt ≤ 9 := fun q hq => (hI.1.2.1 q (Nat.lt_of_lt_of_le hq.1 (by rw [hd9.2.2.2.1]; exact hpo.2.1 dn T hd9.1 hd9.2.1 (Nat.le_refl _)))).1
  have hwdA : ∀ q, q < ft → 0 ≤ (wd q).toInt ∧ (wd q).toInt ≤ 100 := fun q hq => (hI.1.2.1 q (Nat.lt_of_lt_of_le hq (by rw [hd9.2.2.2.1]; exact hpo.2.1 dn T hd9.1 hd9.2.1 (Nat.le_refl _)))).2
  have hcp5 := INV_cp hI (by omega)
  have hcp1 := hI.2.2.1.2.1
  have hcnt := hI.2.2.2.1
  have hlst := hI.2.2.2.2
  have hlb := mul_514 (a := Sn) (b := C) (by omega)
  have hftA := bdC_F hbdC
  have hrm := room_c (Sn := Sn) (AD := AD) (C := C) (c := cp) (cl := cl) (U := U) (by omega) hI.2.2.1.2.2.2.2.2 hlst.2.2.2.1 hU
  have hrc : 1000 + 1010 * k9 + cp + 4 * cl ≤ 600000 := (by omega)
  have hefA : ∀ q, lvF ft st tn q → 1 ≤ eO (kd q).toInt (nN (mn q)) := fun q hq => eO_1 (wfS_kn hwfS q hq)
  have hmn9 : mn f0 = nI (nN (mn f0)) ∧ nN (mn f0) ≤ 40 := (by by_cases t0 : (tn f0).toInt = 0; exact ⟨((hwfS f0 hf0).2.2.1 t0).1.1, ((hwfS f0 hf0).2.2.1 t0).1.2.1⟩; rw [hT0 f0 (by omega) t0]; decide)
  refine la_24_1 l C0 hk9 hL9 hS hl (hv1) (rfl) (rfl) ?_
  obtain ⟨hPc, hDc, hFc⟩ := zt_3 hP hD hS hA
  refine zcalle (va_runV (As := [.int (nI f0), .int (xs (6 * k9 + 2)), .int (xs (6 * k9 + 3))]) (rest := []) ⟨hx, hb, hml, hown, hts⟩ (k_at_a l dC dI cI cZ cF H.size x sh lw ro bq bp dq dp lv sl (nI bs) ul su (nI dn) fa ft FA f0 L f kd st tn mn cx cy rk wd tw pa pb gb it (xs (6 * k9 + 2)) (xs (6 * k9 + 3)) (h200f) (hf0) (shB_va hB)) (csV_271 hts rfl rfl ⟨Nat.le_of_ble_eq_true rfl, Nat.le_of_ble_eq_true rfl⟩) (zPV2 (q0 := 0) (ci := 8) hPc hDc hK3 hXN rfl rfl) rfl rfl hl.1 rfl (lv_room (Nat.le_of_ble_eq_true rfl)) dL_law_952 ⟨hrc, hrm⟩) hS hFc hFc (fun v9 t H locs ht hB hk1 hS => ?_)
  obtain ⟨q_1, rfl, hP1, hD1⟩ := hB
  refine W.eq (g2 := F0 m 955 ls [.int q_1]) rfl ?_
  rw [ht] at hP1
  obtain ⟨hP, hD⟩ := zs_3  hP hD hk1 hFc hP1 hD1
  clear hk1 hPc hDc hFc hP1 hD1 ht
  refine lv_pop hx hb dL_law_955 rfl ?_
  refine la_24_2 l C0 hk9 hL9 hS hl (hv1) (rfl) (rfl) ?_
  obtain ⟨hPc, hDc, hFc⟩ := zt_20 hP hD hS hA
  refine zcall (st1 := [.int (-1)]) (va_runV (As := [.int (nI f0), .int (xs (6 * k9 + 2)), .int (xs (6 * k9 + 3))]) (rest := []) ⟨hx, hb, hml, hown, hts⟩ (k_M_at_r l dC dI cI cZ cF H.size k0 a (upd I0 26 (nI ln)) J0 f0 (nN (mn f0)) ft (xs (6 * k9 + 2)) (xs (6 * k9 + 3)) tn mn (hm0) (h200f) (by first | with_reducible assumption | omega) (hmn9.1) (hmn9.2) (hbad)) (csV_272 hts rfl rfl ⟨Nat.le_of_ble_eq_true rfl, Nat.le_of_ble_eq_true rfl⟩) (zPV2 (q0 := 0) (ci := 9) hPc hDc hK3 hXN rfl rfl) rfl rfl hl.1 rfl (lv_room (Nat.le_of_ble_eq_true rfl)) dL_law_972 ⟨hrc, hrm⟩) hS hFc hFc rfl (fun t H locs ht hB hk1 hS => ?_)
  obtain ⟨hP1, hD1⟩ := hB
  rw [ht] at hP1
  obtain ⟨hP, hD⟩ := zs_20  hP hD hk1 hFc hP1 hD1
  clear hk1 hPc hDc hFc hP1 hD1 ht
  refine lv_pop hx hb dL_law_975 rfl ?_
  refine lv_goto (tgt := 1081) hx hb dL_law_976 rfl ?_
  obtain ⟨hP9, hD9⟩ := And.intro hP hD
  refine W.widen (k := 1000 + 1010 * (k9 + 1) + cp + 4 * cl) (n := 45000 + 8192 * cp + 512 * cl + U) (by first | exact wdK | omega) (by first | exact Nat.le_refl _ | omega) ?_
  exact hnext cp cl U H locs ls (lawI_in L f FA ea nd nt nw ul su mc9 rd rt rw P Q TX TY WX WY AR b1 b2 b3 b4 b5 b6 b7 b8 c1 c2 c3 c4 a1 a2 a3 a4 nv RA WT EX EY GR LV y1 y2 y3 y4 a I0 J0 kd st gb it pa pb rk wd tw tn mn cx cy sa shs wh of9 we la lb lc ld P0 Q0 S0 ox oy mt wi ins T0 fl mk jx jy gr bs dn T ft Sn AD C ln FT cc W9 V VX VY hP9 hD9 (hB) (INV_K hI) ⟨hm0, hm19, hm20, hm21⟩ (by first | exact hU | omega)) hS (lv_sub hl [0, 1, 2, 3] rfl)
end
