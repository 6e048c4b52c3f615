set_option maxHeartbeats 4000000 in
set_option maxRecDepth 100000 in
theorem lawI_K {s : State} (dC : Nat → ClassId) (dI : Nat → Nat → Nat) (cI cZ cF cO : ClassId) (e0 mi : Nat) (x sl sh fa lw dr dx dy tg tx ty wy wx wz br bo aa ro za zw zx zy zg bq bp dq dp lv k0 : Nat) {K cp cl U : Nat} {H : Heap} (h : lawI s dC dI cI cZ cF cO e0 mi x sl sh fa lw dr dx dy tg tx ty wy wx wz br bo aa ro za zw zx zy zg bq bp dq dp lv k0 K cp cl U H) : lawI s dC dI cI cZ cF cO e0 mi x sl sh fa lw dr dx dy tg tx ty wy wx wz br bo aa ro za zw zx zy zg bq bp dq dp lv k0 (K + 1) cp cl U H := by
  refine lawI_el h (fun L f FA ea nd nt nw ul su mc9 rd rt rw P Q TX TY WX WY AR b1 b2 b3 b4 b5 b6 b7 b8 c1 c2 c3 c4 a1 a2 a3 a4 nv RA WT EX EY GR LV y1 y2 y3 y4 a I0 J0 kd st gb it pa pb rk wd tw tn mn cx cy sa shs wh of9 we la lb lc ld P0 Q0 S0 ox oy mt wi ins T0 fl mk jx jy gr bs dn T ft Sn AD C ln FT cc W9 V VX VY hP hD hB hI hM hU => ?_)
  exact lawI_in L f FA ea nd nt nw ul su mc9 rd rt rw P Q TX TY WX WY AR b1 b2 b3 b4 b5 b6 b7 b8 c1 c2 c3 c4 a1 a2 a3 a4 nv RA WT EX EY GR LV y1 y2 y3 y4 a I0 J0 kd st gb it pa pb rk wd tw tn mn cx cy sa shs wh of9 we la lb lc ld P0 Q0 S0 ox oy mt wi ins T0 fl mk jx jy gr bs dn T ft Sn AD C ln FT cc W9 V VX VY hP hD hB (INV_K hI) hM hU
set_option maxHeartbeats 4000000 in
set_option maxRecDepth 100000 in
theorem law_turn {p : Program} {e : Env} {s : State} {m : MethodId} {below : List Frame} {meth : Method} {c : Code} (l : Launch) {b L9 : Nat} {xs : Nat → Int32} (C0 : lw_At p s m meth c b L9 xs) (dC : Nat → ClassId) (dI : Nat → Nat → Nat) (cI cZ cF cO : ClassId) (e0 mi : Nat) (x sl sh fa lw dr dx dy tg tx ty wy wx wz br bo aa ro za zw zx zy zg bq bp dq dp lv k0 : Nat) (hK : va_K (dC, dI) classes (zTyO cI cZ cF cO) s) (hXL : zXL e0 mi (fun q : Nat => s.heap.size ≤ q) s) (cp cl U k9 : Nat) (hk9 : 6 * k9 + 6 ≤ L9) (hL9 : L9 ≤ 3072) {H : Heap} {locs : List Loc} {ls : Array Slot} (hLI : lawI s dC dI cI cZ cF cO e0 mi x sl sh fa lw dr dx dy tg tx ty wy wx wz br bo aa ro za zw zx zy zg bq bp dq dp lv k0 k9 cp cl U H) (hS : va_S (fun q : Nat => s.heap.size ≤ q) s.heap H locs) (hl : lv_has ls 4 [(3, .int (nI (6 * k9))), (2, .ref k0), (1, .ref x), (0, .ref b)]) (hnext : ∀ (cp1 cl1 U1 : Nat) (H : Heap) (locs : List Loc) (ls : Array Slot), lawI s dC dI cI cZ cF cO e0 mi x sl sh fa lw dr dx dy tg tx ty wy wx wz br bo aa ro za zw zx zy zg bq bp dq dp lv k0 (k9 + 1) cp1 cl1 U1 H → va_S (fun q : Nat => s.heap.size ≤ q) s.heap H locs → lv_has ls 4 [(3, .int (nI (6 * k9))), (2, .ref k0), (1, .ref x), (0, .ref b)] → W p l e room_1 s m #[Value.ref b] below meth c H locs (1000 + 1010 * (k9 + 1) + cp1 + 4 * cl1) (45000 + 8192 * cp1 + 512 * cl1 + U1) (lw_Z below #[Value.ref b] s) (F0 m 1081 ls [])) : W p l e room_1 s m #[Value.ref b] below meth c H locs (1000 + 1010 * k9 + cp + 4 * cl) (45000 + 8192 * cp + 512 * cl + U) (lw_Z below #[Value.ref b] s) (F0 m 27 ls []) := by
  obtain ⟨hx, hb, hr, hml, hown, hts1, hX, hbl, hlocks, hgv⟩ := id C0
  have hts : ∀ w9 ∈ ws0, w9.before #[Value.ref b] s = true := fun w9 h => hts1 w9 (List.mem_filter.mp h).1
  have hA : ∀ q : Nat, s.heap.size ≤ q → (fun q : Nat => s.heap.size ≤ q) q := fun _ h => h
  have hbA : ¬ (fun q : Nat => s.heap.size ≤ q) b := Nat.not_le.mpr hbl
  refine lv_aload_n hx hb dL_law_27 rfl (lv_at hl 3 rfl) ?_
  refine lv_iload_n hx hb dL_law_28 rfl (lv_at hl 0 rfl) ?_
  refine va_sld hx hb hX hbl hbA hS (vp_in_nI (n := 6 * k9) (N := L9) (by omega) (by omega)) dL_law_29 ?_
  refine lv_bipush (v := 31) hx hb dL_law_30 (by decide) ?_
  refine lv_iand hx hb dL_law_32 ?_
  obtain ⟨j, hj, ej⟩ := pk_andE (xs (Int32.toNatClampNeg (nI (6 * k9)))) (m := 31) 5 (by decide)
  refine zz_i (v := nI j) ej ?_
  match j, hj with
  | 0, _ =>
    refine zz_i (v := 0) (by decide) ?_
    refine lv_tableIn (tgt := 164) (off := 131) hx hb dL_law_33 (by decide) (by decide) (by decide) (by decide) ?_
    exact lk_0 l C0 dC dI cI cZ cF cO e0 mi x sl sh fa lw dr dx dy tg tx ty wy wx wz br bo aa ro za zw zx zy zg bq bp dq dp lv k0 hK hXL cp cl U k9 hk9 hL9 hLI hS hl hnext
  | 1, _ =>
    refine zz_i (v := 1) (by decide) ?_
    refine lv_tableIn (tgt := 217) (off := 184) hx hb dL_law_33 (by decide) (by decide) (by decide) (by decide) ?_
    exact lk_1 l C0 dC dI cI cZ cF cO e0 mi x sl sh fa lw dr dx dy tg tx ty wy wx wz br bo aa ro za zw zx zy zg bq bp dq dp lv k0 hK hXL cp cl U k9 hk9 hL9 hLI hS hl hnext
  | 2, _ =>
    refine zz_i (v := 2) (by decide) ?_
    refine lv_tableIn (tgt := 260) (off := 227) hx hb dL_law_33 (by decide) (by decide) (by decide) (by decide) ?_
    exact lk_2 l C0 dC dI cI cZ cF cO e0 mi x sl sh fa lw dr dx dy tg tx ty wy wx wz br bo aa ro za zw zx zy zg bq bp dq dp lv k0 hK hXL cp cl U k9 hk9 hL9 hLI hS hl hnext
  | 3, _ =>
    refine zz_i (v := 3) (by decide) ?_
    refine lv_tableIn (tgt := 283) (off := 250) hx hb dL_law_33 (by decide) (by decide) (by decide) (by decide) ?_
    exact lk_3 l C0 dC dI cI cZ cF cO e0 mi x sl sh fa lw dr dx dy tg tx ty wy wx wz br bo aa ro za zw zx zy zg bq bp dq dp lv k0 hK hXL cp cl U k9 hk9 hL9 hLI hS hl hnext
  | 4, _ =>
    refine zz_i (v := 4) (by decide) ?_
    refine lv_tableIn (tgt := 306) (off := 273) hx hb dL_law_33 (by decide) (by decide) (by decide) (by decide) ?_
    exact lk_4 l C0 dC dI cI cZ cF cO e0 mi x sl sh fa lw dr dx dy tg tx ty wy wx wz br bo aa ro za zw zx zy zg bq bp dq dp lv k0 hK hXL cp cl U k9 hk9 hL9 hLI hS hl hnext
  | 5, _ =>
    refine zz_i (v := 5) (by decide) ?_
    refine lv_tableIn (tgt := 339) (off := 306) hx hb dL_law_33 (by decide) (by decide) (by decide) (by decide) ?_
    exact lk_5 l C0 dC dI cI cZ cF cO e0 mi x sl sh fa lw dr dx dy tg tx ty wy wx wz br bo aa ro za zw zx zy zg bq bp dq dp lv k0 hK hXL cp cl U k9 hk9 hL9 hLI hS hl hnext
  | 6, _ =>
    refine zz_i (v := 6) (by decide) ?_
    refine lv_tableIn (tgt := 362) (off := 329) hx hb dL_law_33 (by decide) (by decide) (by decide) (by decide) ?_
    exact lk_6 l C0 dC dI cI cZ cF cO e0 mi x sl sh fa lw dr dx dy tg tx ty wy wx wz br bo aa ro za zw zx zy zg bq bp dq dp lv k0 hK hXL cp cl U k9 hk9 hL9 hLI hS hl hnext
  | 7, _ =>
    refine zz_i (v := 7) (by decide) ?_
    refine lv_tableIn (tgt := 425) (off := 392) hx hb dL_law_33 (by decide) (by decide) (by decide) (by decide) ?_
    exact lk_7 l C0 dC dI cI cZ cF cO e0 mi x sl sh fa lw dr dx dy tg tx ty wy wx wz br bo aa ro za zw zx zy zg bq bp dq dp lv k0 hK hXL cp cl U k9 hk9 hL9 hLI hS hl hnext
  | 8, _ =>
    refine zz_i (v := 8) (by decide) ?_
    refine lv_tableIn (tgt := 448) (off := 415) hx hb dL_law_33 (by decide) (by decide) (by decide) (by decide) ?_
    exact lk_8 l C0 dC dI cI cZ cF cO e0 mi x sl sh fa lw dr dx dy tg tx ty wy wx wz br bo aa ro za zw zx zy zg bq bp dq dp lv k0 hK hXL cp cl U k9 hk9 hL9 hLI hS hl hnext
  | 9, _ =>
    refine zz_i (v := 9) (by decide) ?_
    refine lv_tableIn (tgt := 481) (off := 448) hx hb dL_law_33 (by decide) (by decide) (by decide) (by decide) ?_
    exact lk_9 l C0 dC dI cI cZ cF cO e0 mi x sl sh fa lw dr dx dy tg tx ty wy wx wz br bo aa ro za zw zx zy zg bq bp dq dp lv k0 hK hXL cp cl U k9 hk9 hL9 hLI hS hl hnext
  | 10, _ =>
    refine zz_i (v := 10) (by decide) ?_
    refine lv_tableIn (tgt := 524) (off := 491) hx hb dL_law_33 (by decide) (by decide) (by decide) (by decide) ?_
    exact lk_10 l C0 dC dI cI cZ cF cO e0 mi x sl sh fa lw dr dx dy tg tx ty wy wx wz br bo aa ro za zw zx zy zg bq bp dq dp lv k0 hK hXL cp cl U k9 hk9 hL9 hLI hS hl hnext
  | 11, _ =>
    refine zz_i (v := 11) (by decide) ?_
    refine lv_tableIn (tgt := 547) (off := 514) hx hb dL_law_33 (by decide) (by decide) (by decide) (by decide) ?_
    exact lk_11 l C0 dC dI cI cZ cF cO e0 mi x sl sh fa lw dr dx dy tg tx ty wy wx wz br bo aa ro za zw zx zy zg bq bp dq dp lv k0 hK hXL cp cl U k9 hk9 hL9 hLI hS hl hnext
  | 12, _ =>
    refine zz_i (v := 12) (by decide) ?_
    refine lv_tableIn (tgt := 580) (off := 547) hx hb dL_law_33 (by decide) (by decide) (by decide) (by decide) ?_
    exact lk_12 l C0 dC dI cI cZ cF cO e0 mi x sl sh fa lw dr dx dy tg tx ty wy wx wz br bo aa ro za zw zx zy zg bq bp dq dp lv k0 hK hXL cp cl U k9 hk9 hL9 hLI hS hl hnext
  | 13, _ =>
    refine zz_i (v := 13) (by decide) ?_
    refine lv_tableIn (tgt := 593) (off := 560) hx hb dL_law_33 (by decide) (by decide) (by decide) (by decide) ?_
    exact lk_13 l C0 dC dI cI cZ cF cO e0 mi x sl sh fa lw dr dx dy tg tx ty wy wx wz br bo aa ro za zw zx zy zg bq bp dq dp lv k0 hK hXL cp cl U k9 hk9 hL9 hLI hS hl hnext
  | 14, _ =>
    refine zz_i (v := 14) (by decide) ?_
    refine lv_tableIn (tgt := 616) (off := 583) hx hb dL_law_33 (by decide) (by decide) (by decide) (by decide) ?_
    exact lk_14 l C0 dC dI cI cZ cF cO e0 mi x sl sh fa lw dr dx dy tg tx ty wy wx wz br bo aa ro za zw zx zy zg bq bp dq dp lv k0 hK hXL cp cl U k9 hk9 hL9 hLI hS hl hnext
  | 15, _ =>
    refine zz_i (v := 15) (by decide) ?_
    refine lv_tableIn (tgt := 629) (off := 596) hx hb dL_law_33 (by decide) (by decide) (by decide) (by decide) ?_
    exact lk_15 l C0 dC dI cI cZ cF cO e0 mi x sl sh fa lw dr dx dy tg tx ty wy wx wz br bo aa ro za zw zx zy zg bq bp dq dp lv k0 hK hXL cp cl U k9 hk9 hL9 hLI hS hl hnext
  | 16, _ =>
    refine zz_i (v := 16) (by decide) ?_
    refine lv_tableIn (tgt := 642) (off := 609) hx hb dL_law_33 (by decide) (by decide) (by decide) (by decide) ?_
    exact lk_16 l C0 dC dI cI cZ cF cO e0 mi x sl sh fa lw dr dx dy tg tx ty wy wx wz br bo aa ro za zw zx zy zg bq bp dq dp lv k0 hK hXL cp cl U k9 hk9 hL9 hLI hS hl hnext
  | 17, _ =>
    refine zz_i (v := 17) (by decide) ?_
    refine lv_tableIn (tgt := 675) (off := 642) hx hb dL_law_33 (by decide) (by decide) (by decide) (by decide) ?_
    exact lk_17 l C0 dC dI cI cZ cF cO e0 mi x sl sh fa lw dr dx dy tg tx ty wy wx wz br bo aa ro za zw zx zy zg bq bp dq dp lv k0 hK hXL cp cl U k9 hk9 hL9 hLI hS hl hnext
  | 18, _ =>
    refine zz_i (v := 18) (by decide) ?_
    refine lv_tableIn (tgt := 718) (off := 685) hx hb dL_law_33 (by decide) (by decide) (by decide) (by decide) ?_
    exact lk_18 l C0 dC dI cI cZ cF cO e0 mi x sl sh fa lw dr dx dy tg tx ty wy wx wz br bo aa ro za zw zx zy zg bq bp dq dp lv k0 hK hXL cp cl U k9 hk9 hL9 hLI hS hl hnext
  | 19, _ =>
    refine zz_i (v := 19) (by decide) ?_
    refine lv_tableIn (tgt := 771) (off := 738) hx hb dL_law_33 (by decide) (by decide) (by decide) (by decide) ?_
    exact lk_19 l C0 dC dI cI cZ cF cO e0 mi x sl sh fa lw dr dx dy tg tx ty wy wx wz br bo aa ro za zw zx zy zg bq bp dq dp lv k0 hK hXL cp cl U k9 hk9 hL9 hLI hS hl hnext
  | 20, _ =>
    refine zz_i (v := 20) (by decide) ?_
    refine lv_tableIn (tgt := 814) (off := 781) hx hb dL_law_33 (by decide) (by decide) (by decide) (by decide) ?_
    exact lk_20 l C0 dC dI cI cZ cF cO e0 mi x sl sh fa lw dr dx dy tg tx ty wy wx wz br bo aa ro za zw zx zy zg bq bp dq dp lv k0 hK hXL cp cl U k9 hk9 hL9 hLI hS hl hnext
  | 21, _ =>
    refine zz_i (v := 21) (by decide) ?_
    refine lv_tableIn (tgt := 837) (off := 804) hx hb dL_law_33 (by decide) (by decide) (by decide) (by decide) ?_
    exact lk_21 l C0 dC dI cI cZ cF cO e0 mi x sl sh fa lw dr dx dy tg tx ty wy wx wz br bo aa ro za zw zx zy zg bq bp dq dp lv k0 hK hXL cp cl U k9 hk9 hL9 hLI hS hl hnext
  | 22, _ =>
    refine zz_i (v := 22) (by decide) ?_
    refine lv_tableIn (tgt := 880) (off := 847) hx hb dL_law_33 (by decide) (by decide) (by decide) (by decide) ?_
    exact lk_22 l C0 dC dI cI cZ cF cO e0 mi x sl sh fa lw dr dx dy tg tx ty wy wx wz br bo aa ro za zw zx zy zg bq bp dq dp lv k0 hK hXL cp cl U k9 hk9 hL9 hLI hS hl hnext
  | 23, _ =>
    refine zz_i (v := 23) (by decide) ?_
    refine lv_tableIn (tgt := 913) (off := 880) hx hb dL_law_33 (by decide) (by decide) (by decide) (by decide) ?_
    exact lk_23 l C0 dC dI cI cZ cF cO e0 mi x sl sh fa lw dr dx dy tg tx ty wy wx wz br bo aa ro za zw zx zy zg bq bp dq dp lv k0 hK hXL cp cl U k9 hk9 hL9 hLI hS hl hnext
  | 24, _ =>
    refine zz_i (v := 24) (by decide) ?_
    refine lv_tableIn (tgt := 936) (off := 903) hx hb dL_law_33 (by decide) (by decide) (by decide) (by decide) ?_
    exact lk_24 l C0 dC dI cI cZ cF cO e0 mi x sl sh fa lw dr dx dy tg tx ty wy wx wz br bo aa ro za zw zx zy zg bq bp dq dp lv k0 hK hXL cp cl U k9 hk9 hL9 hLI hS hl hnext
  | 25, _ =>
    refine zz_i (v := 25) (by decide) ?_
    refine lv_tableIn (tgt := 979) (off := 946) hx hb dL_law_33 (by decide) (by decide) (by decide) (by decide) ?_
    exact lk_25 l C0 dC dI cI cZ cF cO e0 mi x sl sh fa lw dr dx dy tg tx ty wy wx wz br bo aa ro za zw zx zy zg bq bp dq dp lv k0 hK hXL cp cl U k9 hk9 hL9 hLI hS hl hnext
  | 26, _ =>
    refine zz_i (v := 26) (by decide) ?_
    refine lv_tableIn (tgt := 1012) (off := 979) hx hb dL_law_33 (by decide) (by decide) (by decide) (by decide) ?_
    exact lk_26 l C0 dC dI cI cZ cF cO e0 mi x sl sh fa lw dr dx dy tg tx ty wy wx wz br bo aa ro za zw zx zy zg bq bp dq dp lv k0 hK hXL cp cl U k9 hk9 hL9 hLI hS hl hnext
  | 27, _ =>
    refine zz_i (v := 27) (by decide) ?_
    refine lv_tableIn (tgt := 1045) (off := 1012) hx hb dL_law_33 (by decide) (by decide) (by decide) (by decide) ?_
    exact lk_27 l C0 dC dI cI cZ cF cO e0 mi x sl sh fa lw dr dx dy tg tx ty wy wx wz br bo aa ro za zw zx zy zg bq bp dq dp lv k0 hK hXL cp cl U k9 hk9 hL9 hLI hS hl hnext
  | 28, _ =>
    refine zz_i (v := 28) (by decide) ?_
    refine lv_tableIn (tgt := 1068) (off := 1035) hx hb dL_law_33 (by decide) (by decide) (by decide) (by decide) ?_
    exact lk_28 l C0 dC dI cI cZ cF cO e0 mi x sl sh fa lw dr dx dy tg tx ty wy wx wz br bo aa ro za zw zx zy zg bq bp dq dp lv k0 hK hXL cp cl U k9 hk9 hL9 hLI hS hl hnext
  | 29, _ =>
    refine zz_i (v := 29) (by decide) ?_
    refine lv_tableOut (tgt := 1081) hx hb dL_law_33 (by decide) (by decide) ?_
    refine W.widen (k := 1000 + 1010 * (k9 + 1) + cp + 4 * cl) (n := 45000 + 8192 * cp + 512 * cl + U) (by omega) (by omega) ?_
    exact hnext cp cl U H locs ls (lawI_K dC dI cI cZ cF cO e0 mi x sl sh fa lw dr dx dy tg tx ty wy wx wz br bo aa ro za zw zx zy zg bq bp dq dp lv k0 hLI) hS hl
  | 30, _ =>
    refine zz_i (v := 30) (by decide) ?_
    refine lv_tableOut (tgt := 1081) hx hb dL_law_33 (by decide) (by decide) ?_
    refine W.widen (k := 1000 + 1010 * (k9 + 1) + cp + 4 * cl) (n := 45000 + 8192 * cp + 512 * cl + U) (by omega) (by omega) ?_
    exact hnext cp cl U H locs ls (lawI_K dC dI cI cZ cF cO e0 mi x sl sh fa lw dr dx dy tg tx ty wy wx wz br bo aa ro za zw zx zy zg bq bp dq dp lv k0 hLI) hS hl
  | 31, _ =>
    refine zz_i (v := 31) (by decide) ?_
    refine lv_tableOut (tgt := 1081) hx hb dL_law_33 (by decide) (by decide) ?_
    refine W.widen (k := 1000 + 1010 * (k9 + 1) + cp + 4 * cl) (n := 45000 + 8192 * cp + 512 * cl + U) (by omega) (by omega) ?_
    exact hnext cp cl U H locs ls (lawI_K dC dI cI cZ cF cO e0 mi x sl sh fa lw dr dx dy tg tx ty wy wx wz br bo aa ro za zw zx zy zg bq bp dq dp lv k0 hLI) hS hl
  | j + 32, hj => exact absurd hj (by omega)
set_option maxHeartbeats 4000000 in
set_option maxRecDepth 100000 in
theorem law_loop {p : Program} {e : Env} {s : State} {m : MethodId} {below : List Frame} {meth : Method} {c : Code} (l : Launch) {b L9 : Nat} {xs : Nat → Int32} (C0 : lw_At p s m meth c b L9 xs) (dC : Nat → ClassId) (dI : Nat → Nat → Nat) (cI cZ cF cO : ClassId) (e0 mi : Nat) (x sl sh fa lw dr dx dy tg tx ty wy wx wz br bo aa ro za zw zx zy zg bq bp dq dp lv k0 : Nat) (hK : va_K (dC, dI) classes (zTyO cI cZ cF cO) s) (hXL : zXL e0 mi (fun q : Nat => s.heap.size ≤ q) s) (hL9 : L9 ≤ 3072) : ∀ (n k9 cp cl U : Nat) (H : Heap) (locs : List Loc) (ls : Array Slot), L9 - 6 * k9 ≤ n → 6 * k9 ≤ L9 → lawI s dC dI cI cZ cF cO e0 mi x sl sh fa lw dr dx dy tg tx ty wy wx wz br bo aa ro za zw zx zy zg bq bp dq dp lv k0 k9 cp cl U H → va_S (fun q : Nat => s.heap.size ≤ q) s.heap H locs → lv_has ls 4 [(3, .int (nI (6 * k9))), (2, .ref k0), (1, .ref x), (0, .ref b)] → W p l e room_1 s m #[Value.ref b] below meth c H locs (1000 + 1010 * k9 + cp + 4 * cl) (45000 + 8192 * cp + 512 * cl + U) (lw_Z below #[Value.ref b] s) (F0 m 18 ls []) := by
  obtain ⟨hx, hb, hr, hml, hown, hts1, hX, hbl, hlocks, hgv⟩ := id C0
  have hts : ∀ w9 ∈ ws0, w9.before #[Value.ref b] s = true := fun w9 h => hts1 w9 (List.mem_filter.mp h).1
  have hA : ∀ q : Nat, s.heap.size ≤ q → (fun q : Nat => s.heap.size ≤ q) q := fun _ h => h
  have hbA : ¬ (fun q : Nat => s.heap.size ≤ q) b := Nat.not_le.mpr hbl
  intro n
  induction n with
  | zero =>
    intro k9 cp cl U H locs ls hn hk hLI hS hl
    refine lv_iload_n hx hb dL_law_18 rfl (lv_at hl 0 rfl) ?_
    refine lv_aload_n hx hb dL_law_19 rfl (lv_at hl 3 rfl) ?_
    refine va_slen hx hb hX hbl hbA hS dL_law_20 ?_
    refine lv_bipush (v := 6) hx hb dL_law_21 (by decide) ?_
    refine lv_isub hx hb dL_law_23 ?_
    have e7 : (Int32.ofNat L9 - 6).toInt = ((L9 : Nat) : Int) - 6 := lw_sub6 (by omega)
    refine lv_icmp_gt (tgt := 1087) hx hb dL_law_24 (by decide) (fun c9 => ?_) (fun c9 => ?_)
    · refine va_forget (fun q hq => hS.2.2 q hq) ?_
      refine lv_iconst (v := 1) hx hb dL_law_1087 (by decide) ?_
      refine W.widen (k := 600000) (n := 7302250) (law_room1 hL9 hk hLI) (law_room2 hL9 hk hLI) ?_
      exact lw_ret hx hb hr hlocks dL_law_1088
    · exact absurd (show Int32.ofNat L9 - 6 < nI (6 * k9) from Int32.lt_iff_toInt_lt.mpr (by rw [e7, nI_toInt (by omega)]; omega)) c9
  | succ n ih =>
    intro k9 cp cl U H locs ls hn hk hLI hS hl
    refine lv_iload_n hx hb dL_law_18 rfl (lv_at hl 0 rfl) ?_
    refine lv_aload_n hx hb dL_law_19 rfl (lv_at hl 3 rfl) ?_
    refine va_slen hx hb hX hbl hbA hS dL_law_20 ?_
    refine lv_bipush (v := 6) hx hb dL_law_21 (by decide) ?_
    refine lv_isub hx hb dL_law_23 ?_
    have e7 : (Int32.ofNat L9 - 6).toInt = ((L9 : Nat) : Int) - 6 := lw_sub6 (by omega)
    refine lv_icmp_gt (tgt := 1087) hx hb dL_law_24 (by decide) (fun c9 => ?_) (fun c9 => ?_)
    · refine va_forget (fun q hq => hS.2.2 q hq) ?_
      refine lv_iconst (v := 1) hx hb dL_law_1087 (by decide) ?_
      refine W.widen (k := 600000) (n := 7302250) (law_room1 hL9 hk hLI) (law_room2 hL9 hk hLI) ?_
      exact lw_ret hx hb hr hlocks dL_law_1088
    · have hk6 : 6 * k9 + 6 ≤ L9 := (by rcases Nat.lt_or_ge L9 (6 * k9 + 6) with g | g; exact absurd (show Int32.ofNat L9 - 6 < nI (6 * k9) from Int32.lt_iff_toInt_lt.mpr (by rw [e7, nI_toInt (by omega)]; omega)) c9; exact g)
      refine law_turn l C0 dC dI cI cZ cF cO e0 mi x sl sh fa lw dr dx dy tg tx ty wy wx wz br bo aa ro za zw zx zy zg bq bp dq dp lv k0 hK hXL cp cl U k9 hk6 hL9 hLI hS hl (fun cp1 cl1 U1 H1 locs1 ls1 hLI1 hS1 hl1 => ?_)
      refine lv_iinc (v := nI (6 * (k9 + 1))) (lv' := [(3, .int (nI (6 * (k9 + 1)))), (2, .ref k0), (1, .ref x), (0, .ref b)]) hx hb dL_law_1081 hl1 (k := 0) rfl (nI_add (6 * k9) 6) (by decide) rfl (fun ls2 hl2 => ?_)
      refine lv_goto (tgt := 18) hx hb dL_law_1084 (by decide) ?_
      exact ih (k9 + 1) cp1 cl1 U1 H1 locs1 ls2 (by omega) (by omega) hLI1 hS1 hl2
